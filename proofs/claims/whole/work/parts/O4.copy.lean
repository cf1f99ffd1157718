/-! THE CLASS: what is told is copied -/
/-- an object of what is told, with all that hangs on it -/
def TS (μ : rM) (t : Nat) : Prop := ShD μ t ∧ (rr μ (t + 3) 0 = some (t + 7) ∧ rr μ (t + 3) 1 = some (t + 27)) ∧ (rr μ (t + 4) 0 = some (t + 20) ∧ rr μ (t + 4) 1 = some (t + 40)) ∧ (rr μ (t + 5) 0 = some (t + 22) ∧ rr μ (t + 5) 1 = some (t + 42)) ∧ (rr μ (t + 6) 0 = some (t + 25) ∧ rr μ (t + 6) 1 = some (t + 45)) ∧ (ShS μ (t + 7) ∧ ShS μ (t + 27)) ∧ (ShL μ (t + 20) ∧ ShL μ (t + 40)) ∧ (ShR μ (t + 22) ∧ ShR μ (t + 42)) ∧ (ShC μ (t + 25) ∧ ShC μ (t + 45))
theorem agS_c {S S2 T T2 : Nat → Int → Int} (h : ∀ f, f < 13 → S f = S2 f) (k : ∀ f, f < 13 → T f = T2 f) (ha : agS S T) : agS S2 T2 := by
  obtain ⟨a1, a2, a3⟩ := ha
  exact ⟨by rw [← h 0 (by omega), ← k 0 (by omega)]; exact a1, fun i g1 g2 => by rw [← h 1 (by omega), ← k 1 (by omega)]; exact a2 i g1 g2, fun f f1 f2 j g1 g2 => by rw [← h f (by omega), ← k f (by omega)]; exact a3 f f1 f2 j g1 g2⟩
theorem agL_c {S S2 T T2 : Nat → Int → Int} (h : ∀ f, f < 2 → S f = S2 f) (k : ∀ f, f < 2 → T f = T2 f) (ha : agL S T) : agL S2 T2 := by
  obtain ⟨a1, a2⟩ := ha
  exact ⟨by rw [← h 0 (by omega), ← k 0 (by omega)]; exact a1, fun i g1 g2 => by rw [← h 1 (by omega), ← k 1 (by omega)]; exact a2 i g1 g2⟩
theorem agR_c {S S2 T T2 : Nat → Int → Int} (h : ∀ f, f < 3 → S f = S2 f) (k : ∀ f, f < 3 → T f = T2 f) (ha : agR S T) : agR S2 T2 := by
  obtain ⟨a1, a2, a3⟩ := ha
  exact ⟨by rw [← h 0 (by omega), ← k 0 (by omega)]; exact a1, fun i g1 g2 => by rw [← h 1 (by omega), ← k 1 (by omega)]; exact a2 i g1 g2, fun i g1 g2 => by rw [← h 2 (by omega), ← k 2 (by omega)]; exact a3 i g1 g2⟩
theorem agC_c {S S2 T T2 : Nat → Int → Int} (h : ∀ f, f < 2 → S f = S2 f) (k : ∀ f, f < 2 → T f = T2 f) (ha : agC S T) : agC S2 T2 := by
  obtain ⟨a1, a2⟩ := ha
  exact ⟨by rw [← h 0 (by omega), ← k 0 (by omega)]; exact a1, fun i g1 g2 => by rw [← h 1 (by omega), ← k 1 (by omega)]; exact a2 i g1 g2⟩
/-- all that is told at b lies at a -/
def CPT (I I' : Nat → Int → Int) (a b : Nat) : Prop := (I' a 1 = I b 1 ∧ I' a 2 = I b 2 ∧ I' a 3 = I b 3) ∧ (∀ j, 0 ≤ j → j < 600 → I' (a + 1) j = I (b + 1) j) ∧ (∀ s, 0 ≤ s → s < 4 → I' (a + 2) s = I (b + 2) s) ∧ (agS (rws I (b + 7)) (rws I' (a + 7)) ∧ agL (rws I (b + 20)) (rws I' (a + 20)) ∧ agR (rws I (b + 22)) (rws I' (a + 22)) ∧ agC (rws I (b + 25)) (rws I' (a + 25))) ∧ (agS (rws I (b + 27)) (rws I' (a + 27)) ∧ agL (rws I (b + 40)) (rws I' (a + 40)) ∧ agR (rws I (b + 42)) (rws I' (a + 42)) ∧ agC (rws I (b + 45)) (rws I' (a + 45)))
section COPY
variable {E : (Nat → Value) × (Nat → Nat)} {lo d a b : Nat} {μ : rM} {I : Nat → Int → Int}
theorem tcp_sp (hd : 2 ≤ d) (ha : TS μ a) (hb : TS μ b) (hl : lo ≤ a ∧ lo ≤ b) (hab : a + 47 ≤ b ∨ b + 47 ≤ a) (h4 : (I (b + 20) 4 = 0 ∨ I (b + 20) 4 = 1) ∧ (I (b + 40) 4 = 0 ∨ I (b + 40) 4 = 1)) : ∃ I', cl E lo d 95 [.ref a, .ref b] (mj μ I) = some (none, mj μ I') ∧ (∀ x, (x < a ∨ a + 47 ≤ x) → I' x = I x) ∧ CPT I I' a b := by
  obtain ⟨d, rfl⟩ : ∃ e, d = e + 1 := ⟨d - 1, by omega⟩
  obtain ⟨hDa, ⟨a30, a31⟩, ⟨a40, a41⟩, ⟨a50, a51⟩, ⟨a60, a61⟩, ⟨aS0, aS1⟩, ⟨aL0, aL1⟩, ⟨aR0, aR1⟩, ⟨aC0, aC1⟩⟩ := ha
  obtain ⟨hDb, ⟨b30, b31⟩, ⟨b40, b41⟩, ⟨b50, b51⟩, ⟨b60, b61⟩, ⟨bS0, bS1⟩, ⟨bL0, bL1⟩, ⟨bR0, bR1⟩, ⟨bC0, bC1⟩⟩ := hb
  have hla := hl.1
  have k1 := fun X (r : Option rRs) => acp_k (μ := μ) (lo := lo) (I := X) (r := r) (x := 0) (y := 0) (w := 600) (hDb.2 (0, 1, 1, 600) (by decide)).2 (hDa.2 (0, 1, 1, 600) (by decide)).2 (Or.inr rfl) (by dsimp only; omega) (by dsimp only; omega)
  have k2 := fun X (r : Option rRs) => acp_k (μ := μ) (lo := lo) (I := X) (r := r) (x := 0) (y := 0) (w := 4) (hDb.2 (4, 2, 0, 4) (by decide)).2 (hDa.2 (4, 2, 0, 4) (by decide)).2 (Or.inl rfl) (by dsimp only; omega) (by dsimp only; omega)
  dsimp only at k1 k2
  obtain ⟨I0, eI0⟩ : ∃ I0, I0 = cpk (u3 (u3 (u3 (cpk I I (a + 1) (b + 1) 600) a 1 (I b 1)) a 2 (I b 2)) a 3 (I b 3)) I (a + 2) (b + 2) 4 := ⟨_, rfl⟩
  have s0 : cl E lo (d + 1) 95 [.ref a, .ref b] (mj μ I) = ex PG E lo d 95 56 [some (.ref a), some (.ref b), some (.int (J (0)))] [] (mj μ I0) := by
    rw [eI0]
    unfold cpk
    simp (disch := omega) only [b95_0, b95_16, b95_24, b95_32, b95_40, b95_54, e95, gO_D hDa, gR_D0 hDa, gR_D4 hDa, gR_D5 hDa, gR_D6 hDa, gR_D7 hDa, gR_D8 hDa, al_D1 hDa, al_D2 hDa, al_D3 hDa, al_D4 hDa, al_D5 hDa, al_D6 hDa, rd_D1 hDa, rd_D2 hDa, rd_D3 hDa, rd_D4 hDa, rd_D5 hDa, rd_D6 hDa, gP_D hDa hla, wr_D1 hDa hla, wr_D2 hDa hla, gO_D hDb, gR_D0 hDb, gR_D4 hDb, gR_D5 hDb, gR_D6 hDb, gR_D7 hDb, gR_D8 hDb, al_D1 hDb, al_D2 hDb, al_D3 hDb, al_D4 hDb, al_D5 hDb, al_D6 hDb, rd_D1 hDb, rd_D2 hDb, rd_D3 hDb, rd_D4 hDb, rd_D5 hDb, rd_D6 hDb, k1, k2, cp_j, sA_n, u3_c, Jl0, Jl1, Jl2, Jl3, Jl4, Jl5, Jl6, Jl7, Jl8, Jl9, Jl10, Jl11, Jl12, Jl13, Jl14, Jl15, Jl16, Jl17, Jl18, Jl19, Jl20, Jl22, Jl24, Jl28, Jl30, Jl31, Jl32, Jl35, Jl36, Jl37, Jl38, Jl39, Jl40, Jl48, Jl57, Jl59, Jl60, Jl61, Jl63, Jl64, Jl68, Jl69, Jl96, Jl97, Jl98, Jl99, Jl100, Jl122, Jl149, Jl150, Jl165, Jl255, Jl511, Jl512, Jl600, Jl610, Jl940, Jl968, Jl999, Jl1134, Jl1152, Jl2048, Jl4608, Jl9999, Jl99999, Jl100000, Jl147456, Jl12345, Jl1103515245, Jl100000000, Jlm1, Jlm2, J_add, J_sub, J_mul, J_lt, J_le, J_eq, J_ite, J_cl, ri_j, wi_j, b2i_z, b2i_o, b2i_zo, Int.cast_ofNat_Int, Int.natCast_zero, Int.natCast_one, if_true, if_false, ite_self, Int.le_refl, J_bit, J_or, J_neg, J_oN, Int.reduceEq, Int.reduceLT, Int.reduceLE, Int.reduceNeg, Int.reduceAdd, Int.reduceSub, Int.reduceMul, Int.reduceToNat, J_shl, J_shr, V_ite, true_or, or_true, nz_j, J_div, J_rem, Option.bind_some, Option.toList_some, Option.toList_none, List.cons_append, List.nil_append, Jl21, Jl23, Jl25, Jl74, Jl83, Jl288, Jl324, Jl1800, Jlm8]
  have f0 : ∀ x, (x < a ∨ a + 3 ≤ x) → I0 x = I x := fun x hx => by
    rw [eI0]
    simp (disch := omega) only [cpk_n, u3_c]
  have g0 : I0 a 1 = I b 1 ∧ I0 a 2 = I b 2 ∧ I0 a 3 = I b 3 := by
    rw [eI0]
    simp (disch := omega) only [cpk_n, u3_n, u3_s, and_self]
  have g1 : ∀ j, 0 ≤ j → j < 600 → I0 (a + 1) j = I (b + 1) j := fun j q1 q2 => by
    rw [eI0]
    simp (disch := omega) only [cpk_n, u3_c]
    exact cpk_s ⟨q1, q2⟩
  have g2 : ∀ j, 0 ≤ j → j < 4 → I0 (a + 2) j = I (b + 2) j := fun j q1 q2 => by
    rw [eI0]
    exact cpk_s ⟨q1, q2⟩
  obtain ⟨I1, eI1⟩ : ∃ I1, I1 = cpS I0 (a + 7) (b + 7) := ⟨_, rfl⟩
  obtain ⟨I2, eI2⟩ : ∃ I2, I2 = cpL I1 (a + 20) (b + 20) := ⟨_, rfl⟩
  obtain ⟨I3, eI3⟩ : ∃ I3, I3 = cpR I2 (a + 22) (b + 22) := ⟨_, rfl⟩
  obtain ⟨I4, eI4⟩ : ∃ I4, I4 = cpC I3 (a + 25) (b + 25) := ⟨_, rfl⟩
  obtain ⟨I5, eI5⟩ : ∃ I5, I5 = cpS I4 (a + 27) (b + 27) := ⟨_, rfl⟩
  obtain ⟨I6, eI6⟩ : ∃ I6, I6 = cpL I5 (a + 40) (b + 40) := ⟨_, rfl⟩
  obtain ⟨I7, eI7⟩ : ∃ I7, I7 = cpR I6 (a + 42) (b + 42) := ⟨_, rfl⟩
  obtain ⟨I8, eI8⟩ : ∃ I8, I8 = cpC I7 (a + 45) (b + 45) := ⟨_, rfl⟩
  obtain ⟨t1, f1⟩ := cpS_ag (I := I0) (a := a + 7) (b := b + 7)
  obtain ⟨t2, f2⟩ := cpL_ag (I := I1) (a := a + 20) (b := b + 20)
  obtain ⟨t3, f3⟩ := cpR_ag (I := I2) (a := a + 22) (b := b + 22)
  obtain ⟨t4, f4⟩ := cpC_ag (I := I3) (a := a + 25) (b := b + 25)
  obtain ⟨t5, f5⟩ := cpS_ag (I := I4) (a := a + 27) (b := b + 27)
  obtain ⟨t6, f6⟩ := cpL_ag (I := I5) (a := a + 40) (b := b + 40)
  obtain ⟨t7, f7⟩ := cpR_ag (I := I6) (a := a + 42) (b := b + 42)
  obtain ⟨t8, f8⟩ := cpC_ag (I := I7) (a := a + 45) (b := b + 45)
  rw [← eI1] at t1 f1
  rw [← eI2] at t2 f2
  rw [← eI3] at t3 f3
  rw [← eI4] at t4 f4
  rw [← eI5] at t5 f5
  rw [← eI6] at t6 f6
  rw [← eI7] at t7 f7
  rw [← eI8] at t8 f8
  have c1 := scp_sp (E := E) (lo := lo) (d := d) (I := I0) (by omega) aS0 bS0 (by omega) (by omega)
  have c2 := lcp_sp (E := E) (lo := lo) (d := d) (I := I1) (by omega) aL0 bL0 (by omega) (by omega) (by rw [f1 _ (by omega), f0 _ (by omega)]; exact h4.1)
  have c3 := rcp_sp (E := E) (lo := lo) (d := d) (I := I2) (by omega) aR0 bR0 (by omega) (by omega)
  have c4 := ccp_sp (E := E) (lo := lo) (d := d) (I := I3) (by omega) aC0 bC0 (by omega) (by omega)
  have c5 := scp_sp (E := E) (lo := lo) (d := d) (I := I4) (by omega) aS1 bS1 (by omega) (by omega)
  have c6 := lcp_sp (E := E) (lo := lo) (d := d) (I := I5) (by omega) aL1 bL1 (by omega) (by omega) (by rw [f5 _ (by omega), f4 _ (by omega), f3 _ (by omega), f2 _ (by omega), f1 _ (by omega), f0 _ (by omega)]; exact h4.2)
  have c7 := rcp_sp (E := E) (lo := lo) (d := d) (I := I6) (by omega) aR1 bR1 (by omega) (by omega)
  have c8 := ccp_sp (E := E) (lo := lo) (d := d) (I := I7) (by omega) aC1 bC1 (by omega) (by omega)
  rw [← eI1] at c1
  rw [← eI2] at c2
  rw [← eI3] at c3
  rw [← eI4] at c4
  rw [← eI5] at c5
  rw [← eI6] at c6
  rw [← eI7] at c7
  rw [← eI8] at c8
  clear eI0 eI1 eI2 eI3 eI4 eI5 eI6 eI7 eI8
  have ra30 : rr μ (a + 3) (J 0).toNatClampNeg = some (a + 7) := a30
  have ra31 : rr μ (a + 3) (J 1).toNatClampNeg = some (a + 27) := a31
  have ra40 : rr μ (a + 4) (J 0).toNatClampNeg = some (a + 20) := a40
  have ra41 : rr μ (a + 4) (J 1).toNatClampNeg = some (a + 40) := a41
  have ra50 : rr μ (a + 5) (J 0).toNatClampNeg = some (a + 22) := a50
  have ra51 : rr μ (a + 5) (J 1).toNatClampNeg = some (a + 42) := a51
  have ra60 : rr μ (a + 6) (J 0).toNatClampNeg = some (a + 25) := a60
  have ra61 : rr μ (a + 6) (J 1).toNatClampNeg = some (a + 45) := a61
  have rb30 : rr μ (b + 3) (J 0).toNatClampNeg = some (b + 7) := b30
  have rb31 : rr μ (b + 3) (J 1).toNatClampNeg = some (b + 27) := b31
  have rb40 : rr μ (b + 4) (J 0).toNatClampNeg = some (b + 20) := b40
  have rb41 : rr μ (b + 4) (J 1).toNatClampNeg = some (b + 40) := b41
  have rb50 : rr μ (b + 5) (J 0).toNatClampNeg = some (b + 22) := b50
  have rb51 : rr μ (b + 5) (J 1).toNatClampNeg = some (b + 42) := b51
  have rb60 : rr μ (b + 6) (J 0).toNatClampNeg = some (b + 25) := b60
  have rb61 : rr μ (b + 6) (J 1).toNatClampNeg = some (b + 45) := b61
  have s1 : ex PG E lo d 95 56 [some (.ref a), some (.ref b), some (.int (J (0)))] [] (mj μ I0) = ex PG E lo d 95 56 [some (.ref a), some (.ref b), some (.int (J (1)))] [] (mj μ I4) := by
    rw [b95_56]
    simp (disch := omega) only [b95_61, b95_76, b95_91, b95_106, b95_121, gO_D hDa, gR_D0 hDa, gR_D4 hDa, gR_D5 hDa, gR_D6 hDa, gR_D7 hDa, gR_D8 hDa, al_D1 hDa, al_D2 hDa, al_D3 hDa, al_D4 hDa, al_D5 hDa, al_D6 hDa, rd_D1 hDa, rd_D2 hDa, rd_D3 hDa, rd_D4 hDa, rd_D5 hDa, rd_D6 hDa, gP_D hDa hla, wr_D1 hDa hla, wr_D2 hDa hla, gO_D hDb, gR_D0 hDb, gR_D4 hDb, gR_D5 hDb, gR_D6 hDb, gR_D7 hDb, gR_D8 hDb, al_D1 hDb, al_D2 hDb, al_D3 hDb, al_D4 hDb, al_D5 hDb, al_D6 hDb, rd_D1 hDb, rd_D2 hDb, rd_D3 hDb, rd_D4 hDb, rd_D5 hDb, rd_D6 hDb, gR_k ra30, gR_k ra40, gR_k ra50, gR_k ra60, gR_k rb30, gR_k rb40, gR_k rb50, gR_k rb60, gO_S aS0, gR_S2 aS0, gR_S4 aS0, gR_S5 aS0, gR_S6 aS0, gR_S7 aS0, gR_S8 aS0, gR_S9 aS0, gR_S10 aS0, gR_S11 aS0, gR_S12 aS0, gR_S14 aS0, gR_S15 aS0, al_S1 aS0, al_S2 aS0, al_S3 aS0, al_S4 aS0, al_S5 aS0, al_S6 aS0, al_S7 aS0, al_S8 aS0, al_S9 aS0, al_S10 aS0, al_S11 aS0, al_S12 aS0, rd_S1 aS0, rd_S2 aS0, rd_S3 aS0, rd_S4 aS0, rd_S5 aS0, rd_S6 aS0, rd_S7 aS0, rd_S8 aS0, rd_S9 aS0, rd_S10 aS0, rd_S11 aS0, rd_S12 aS0, gO_L aL0, gR_L5 aL0, al_L1 aL0, rd_L1 aL0, gO_R aR0, gR_R3 aR0, gR_R4 aR0, al_R1 aR0, al_R2 aR0, rd_R1 aR0, rd_R2 aR0, gO_C aC0, gR_C1 aC0, al_C1 aC0, rd_C1 aC0, c1, c2, c3, c4, Jl0, Jl1, Jl2, Jl3, Jl4, Jl5, Jl6, Jl7, Jl8, Jl9, Jl10, Jl11, Jl12, Jl13, Jl14, Jl15, Jl16, Jl17, Jl18, Jl19, Jl20, Jl22, Jl24, Jl28, Jl30, Jl31, Jl32, Jl35, Jl36, Jl37, Jl38, Jl39, Jl40, Jl48, Jl57, Jl59, Jl60, Jl61, Jl63, Jl64, Jl68, Jl69, Jl96, Jl97, Jl98, Jl99, Jl100, Jl122, Jl149, Jl150, Jl165, Jl255, Jl511, Jl512, Jl600, Jl610, Jl940, Jl968, Jl999, Jl1134, Jl1152, Jl2048, Jl4608, Jl9999, Jl99999, Jl100000, Jl147456, Jl12345, Jl1103515245, Jl100000000, Jlm1, Jlm2, J_add, J_sub, J_mul, J_lt, J_le, J_eq, J_ite, J_cl, ri_j, wi_j, b2i_z, b2i_o, b2i_zo, Int.cast_ofNat_Int, Int.natCast_zero, Int.natCast_one, if_true, if_false, ite_self, Int.le_refl, J_bit, J_or, J_neg, J_oN, Int.reduceEq, Int.reduceLT, Int.reduceLE, Int.reduceNeg, Int.reduceAdd, Int.reduceSub, Int.reduceMul, Int.reduceToNat, J_shl, J_shr, V_ite, true_or, or_true, nz_j, J_div, J_rem, Option.bind_some, Option.toList_some, Option.toList_none, List.cons_append, List.nil_append, Jl21, Jl23, Jl25, Jl74, Jl83, Jl288, Jl324, Jl1800, Jlm8]
  have s2 : ex PG E lo d 95 56 [some (.ref a), some (.ref b), some (.int (J (1)))] [] (mj μ I4) = ex PG E lo d 95 56 [some (.ref a), some (.ref b), some (.int (J (2)))] [] (mj μ I8) := by
    rw [b95_56]
    simp (disch := omega) only [b95_61, b95_76, b95_91, b95_106, b95_121, gO_D hDa, gR_D0 hDa, gR_D4 hDa, gR_D5 hDa, gR_D6 hDa, gR_D7 hDa, gR_D8 hDa, al_D1 hDa, al_D2 hDa, al_D3 hDa, al_D4 hDa, al_D5 hDa, al_D6 hDa, rd_D1 hDa, rd_D2 hDa, rd_D3 hDa, rd_D4 hDa, rd_D5 hDa, rd_D6 hDa, gP_D hDa hla, wr_D1 hDa hla, wr_D2 hDa hla, gO_D hDb, gR_D0 hDb, gR_D4 hDb, gR_D5 hDb, gR_D6 hDb, gR_D7 hDb, gR_D8 hDb, al_D1 hDb, al_D2 hDb, al_D3 hDb, al_D4 hDb, al_D5 hDb, al_D6 hDb, rd_D1 hDb, rd_D2 hDb, rd_D3 hDb, rd_D4 hDb, rd_D5 hDb, rd_D6 hDb, gR_k ra31, gR_k ra41, gR_k ra51, gR_k ra61, gR_k rb31, gR_k rb41, gR_k rb51, gR_k rb61, gO_S aS1, gR_S2 aS1, gR_S4 aS1, gR_S5 aS1, gR_S6 aS1, gR_S7 aS1, gR_S8 aS1, gR_S9 aS1, gR_S10 aS1, gR_S11 aS1, gR_S12 aS1, gR_S14 aS1, gR_S15 aS1, al_S1 aS1, al_S2 aS1, al_S3 aS1, al_S4 aS1, al_S5 aS1, al_S6 aS1, al_S7 aS1, al_S8 aS1, al_S9 aS1, al_S10 aS1, al_S11 aS1, al_S12 aS1, rd_S1 aS1, rd_S2 aS1, rd_S3 aS1, rd_S4 aS1, rd_S5 aS1, rd_S6 aS1, rd_S7 aS1, rd_S8 aS1, rd_S9 aS1, rd_S10 aS1, rd_S11 aS1, rd_S12 aS1, gO_L aL1, gR_L5 aL1, al_L1 aL1, rd_L1 aL1, gO_R aR1, gR_R3 aR1, gR_R4 aR1, al_R1 aR1, al_R2 aR1, rd_R1 aR1, rd_R2 aR1, gO_C aC1, gR_C1 aC1, al_C1 aC1, rd_C1 aC1, c5, c6, c7, c8, Jl0, Jl1, Jl2, Jl3, Jl4, Jl5, Jl6, Jl7, Jl8, Jl9, Jl10, Jl11, Jl12, Jl13, Jl14, Jl15, Jl16, Jl17, Jl18, Jl19, Jl20, Jl22, Jl24, Jl28, Jl30, Jl31, Jl32, Jl35, Jl36, Jl37, Jl38, Jl39, Jl40, Jl48, Jl57, Jl59, Jl60, Jl61, Jl63, Jl64, Jl68, Jl69, Jl96, Jl97, Jl98, Jl99, Jl100, Jl122, Jl149, Jl150, Jl165, Jl255, Jl511, Jl512, Jl600, Jl610, Jl940, Jl968, Jl999, Jl1134, Jl1152, Jl2048, Jl4608, Jl9999, Jl99999, Jl100000, Jl147456, Jl12345, Jl1103515245, Jl100000000, Jlm1, Jlm2, J_add, J_sub, J_mul, J_lt, J_le, J_eq, J_ite, J_cl, ri_j, wi_j, b2i_z, b2i_o, b2i_zo, Int.cast_ofNat_Int, Int.natCast_zero, Int.natCast_one, if_true, if_false, ite_self, Int.le_refl, J_bit, J_or, J_neg, J_oN, Int.reduceEq, Int.reduceLT, Int.reduceLE, Int.reduceNeg, Int.reduceAdd, Int.reduceSub, Int.reduceMul, Int.reduceToNat, J_shl, J_shr, V_ite, true_or, or_true, nz_j, J_div, J_rem, Option.bind_some, Option.toList_some, Option.toList_none, List.cons_append, List.nil_append, Jl21, Jl23, Jl25, Jl74, Jl83, Jl288, Jl324, Jl1800, Jlm8]
  refine ⟨I8, ?_, fun x hx => ?_, ⟨?_, fun j q1 q2 => ?_, fun j q1 q2 => ?_, ⟨?_, ?_, ?_, ?_⟩, ⟨?_, ?_, ?_, ?_⟩⟩⟩
  · rw [s0, s1, s2, b95_56]
    simp (disch := omega) only [b95_127, Jl0, Jl1, Jl2, Jl3, Jl4, Jl5, Jl6, Jl7, Jl8, Jl9, Jl10, Jl11, Jl12, Jl13, Jl14, Jl15, Jl16, Jl17, Jl18, Jl19, Jl20, Jl22, Jl24, Jl28, Jl30, Jl31, Jl32, Jl35, Jl36, Jl37, Jl38, Jl39, Jl40, Jl48, Jl57, Jl59, Jl60, Jl61, Jl63, Jl64, Jl68, Jl69, Jl96, Jl97, Jl98, Jl99, Jl100, Jl122, Jl149, Jl150, Jl165, Jl255, Jl511, Jl512, Jl600, Jl610, Jl940, Jl968, Jl999, Jl1134, Jl1152, Jl2048, Jl4608, Jl9999, Jl99999, Jl100000, Jl147456, Jl12345, Jl1103515245, Jl100000000, Jlm1, Jlm2, J_add, J_sub, J_mul, J_lt, J_le, J_eq, J_ite, J_cl, ri_j, wi_j, b2i_z, b2i_o, b2i_zo, Int.cast_ofNat_Int, Int.natCast_zero, Int.natCast_one, if_true, if_false, ite_self, Int.le_refl, J_bit, J_or, J_neg, J_oN, Int.reduceEq, Int.reduceLT, Int.reduceLE, Int.reduceNeg, Int.reduceAdd, Int.reduceSub, Int.reduceMul, Int.reduceToNat, J_shl, J_shr, V_ite, true_or, or_true, nz_j, J_div, J_rem, Option.bind_some, Option.toList_some, Option.toList_none, List.cons_append, List.nil_append, Jl21, Jl23, Jl25, Jl74, Jl83, Jl288, Jl324, Jl1800, Jlm8]
  · rw [f8 _ (by omega), f7 _ (by omega), f6 _ (by omega), f5 _ (by omega), f4 _ (by omega), f3 _ (by omega), f2 _ (by omega), f1 _ (by omega), f0 _ (by omega)]
  · rw [f8 _ (by omega), f7 _ (by omega), f6 _ (by omega), f5 _ (by omega), f4 _ (by omega), f3 _ (by omega), f2 _ (by omega), f1 _ (by omega)]
    exact g0
  · rw [f8 _ (by omega), f7 _ (by omega), f6 _ (by omega), f5 _ (by omega), f4 _ (by omega), f3 _ (by omega), f2 _ (by omega), f1 _ (by omega)]
    exact g1 j q1 q2
  · rw [f8 _ (by omega), f7 _ (by omega), f6 _ (by omega), f5 _ (by omega), f4 _ (by omega), f3 _ (by omega), f2 _ (by omega), f1 _ (by omega)]
    exact g2 j q1 q2
  · refine agS_c (fun f hf => f0 _ (by omega)) (fun f hf => ?_) t1
    show I1 (a + 7 + f) = I8 (a + 7 + f)
    rw [f8 _ (by omega), f7 _ (by omega), f6 _ (by omega), f5 _ (by omega), f4 _ (by omega), f3 _ (by omega), f2 _ (by omega)]
  · refine agL_c (fun f hf => ?_) (fun f hf => ?_) t2
    · show I1 (b + 20 + f) = I (b + 20 + f)
      rw [f1 _ (by omega), f0 _ (by omega)]
    · show I2 (a + 20 + f) = I8 (a + 20 + f)
      rw [f8 _ (by omega), f7 _ (by omega), f6 _ (by omega), f5 _ (by omega), f4 _ (by omega), f3 _ (by omega)]
  · refine agR_c (fun f hf => ?_) (fun f hf => ?_) t3
    · show I2 (b + 22 + f) = I (b + 22 + f)
      rw [f2 _ (by omega), f1 _ (by omega), f0 _ (by omega)]
    · show I3 (a + 22 + f) = I8 (a + 22 + f)
      rw [f8 _ (by omega), f7 _ (by omega), f6 _ (by omega), f5 _ (by omega), f4 _ (by omega)]
  · refine agC_c (fun f hf => ?_) (fun f hf => ?_) t4
    · show I3 (b + 25 + f) = I (b + 25 + f)
      rw [f3 _ (by omega), f2 _ (by omega), f1 _ (by omega), f0 _ (by omega)]
    · show I4 (a + 25 + f) = I8 (a + 25 + f)
      rw [f8 _ (by omega), f7 _ (by omega), f6 _ (by omega), f5 _ (by omega)]
  · refine agS_c (fun f hf => ?_) (fun f hf => ?_) t5
    · show I4 (b + 27 + f) = I (b + 27 + f)
      rw [f4 _ (by omega), f3 _ (by omega), f2 _ (by omega), f1 _ (by omega), f0 _ (by omega)]
    · show I5 (a + 27 + f) = I8 (a + 27 + f)
      rw [f8 _ (by omega), f7 _ (by omega), f6 _ (by omega)]
  · refine agL_c (fun f hf => ?_) (fun f hf => ?_) t6
    · show I5 (b + 40 + f) = I (b + 40 + f)
      rw [f5 _ (by omega), f4 _ (by omega), f3 _ (by omega), f2 _ (by omega), f1 _ (by omega), f0 _ (by omega)]
    · show I6 (a + 40 + f) = I8 (a + 40 + f)
      rw [f8 _ (by omega), f7 _ (by omega)]
  · refine agR_c (fun f hf => ?_) (fun f hf => ?_) t7
    · show I6 (b + 42 + f) = I (b + 42 + f)
      rw [f6 _ (by omega), f5 _ (by omega), f4 _ (by omega), f3 _ (by omega), f2 _ (by omega), f1 _ (by omega), f0 _ (by omega)]
    · show I7 (a + 42 + f) = I8 (a + 42 + f)
      rw [f8 _ (by omega)]
  · refine agC_c (fun f hf => ?_) (fun f hf => rfl) t8
    show I7 (b + 45 + f) = I (b + 45 + f)
    rw [f7 _ (by omega), f6 _ (by omega), f5 _ (by omega), f4 _ (by omega), f3 _ (by omega), f2 _ (by omega), f1 _ (by omega), f0 _ (by omega)]
end COPY
