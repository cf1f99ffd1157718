/-! THE LAW'S RUN -/
theorem zI_z {I : Nat → Int → Int} {z a : Nat} : ∀ n, z ≤ a → a ≤ z + n → zI I z n a = Z0 := by
  intro n
  induction n with
  | zero =>
    intro h1 h2
    show sA I z Z0 a = Z0
    rw [show a = z by omega, sA_s]
  | succ n ih =>
    intro h1 h2
    show sA (zI I z n) (z + (n + 1)) Z0 a = Z0
    by_cases c : a = z + (n + 1)
    · rw [c, sA_s]
    · rw [sA_n c]
      exact ih h1 (by omega)
theorem gl_0 : nAt.length = (stA 0).length ∧ ∀ n : Nat, n < nAt.length → nAt.getD n 0 = ((stA 0).getD n 0).toInt := by decide +kernel
theorem gl_1 : fL.length = (stA 1).length ∧ ∀ n : Nat, n < fL.length → fL.getD n 0 = ((stA 1).getD n 0).toInt := by decide +kernel
theorem gl_2 : bAt.length = (stA 2).length ∧ ∀ n : Nat, n < bAt.length → bAt.getD n 0 = ((stA 2).getD n 0).toInt := by decide +kernel
theorem gl_3 : loL.length = (stA 3).length ∧ ∀ n : Nat, n < loL.length → loL.getD n 0 = ((stA 3).getD n 0).toInt := by decide +kernel
theorem gl_4 : hiL.length = (stA 4).length ∧ ∀ n : Nat, n < hiL.length → hiL.getD n 0 = ((stA 4).getD n 0).toInt := by decide +kernel
theorem ch_0 : (chL ((0 : Nat) : Int)).length = (sBy 0).length ∧ ∀ n : Nat, n < (chL ((0 : Nat) : Int)).length → (chL ((0 : Nat) : Int)).getD n 0 = ((sBy 0).getD n 0).toInt ∧ 0 ≤ (chL ((0 : Nat) : Int)).getD n 0 ∧ (chL ((0 : Nat) : Int)).getD n 0 < 128 := by decide +kernel
theorem ch_1 : (chL ((1 : Nat) : Int)).length = (sBy 1).length ∧ ∀ n : Nat, n < (chL ((1 : Nat) : Int)).length → (chL ((1 : Nat) : Int)).getD n 0 = ((sBy 1).getD n 0).toInt ∧ 0 ≤ (chL ((1 : Nat) : Int)).getD n 0 ∧ (chL ((1 : Nat) : Int)).getD n 0 < 128 := by decide +kernel
theorem ch_2 : (chL ((2 : Nat) : Int)).length = (sBy 2).length ∧ ∀ n : Nat, n < (chL ((2 : Nat) : Int)).length → (chL ((2 : Nat) : Int)).getD n 0 = ((sBy 2).getD n 0).toInt ∧ 0 ≤ (chL ((2 : Nat) : Int)).getD n 0 ∧ (chL ((2 : Nat) : Int)).getD n 0 < 128 := by decide +kernel
theorem ch_3 : (chL ((3 : Nat) : Int)).length = (sBy 3).length ∧ ∀ n : Nat, n < (chL ((3 : Nat) : Int)).length → (chL ((3 : Nat) : Int)).getD n 0 = ((sBy 3).getD n 0).toInt ∧ 0 ≤ (chL ((3 : Nat) : Int)).getD n 0 ∧ (chL ((3 : Nat) : Int)).getD n 0 < 128 := by decide +kernel
theorem ch_q (q : Nat) (hq : q < 4) : (chL (q : Int)).length = (sBy q).length ∧ ∀ n : Nat, n < (chL (q : Int)).length → (chL (q : Int)).getD n 0 = ((sBy q).getD n 0).toInt ∧ 0 ≤ (chL (q : Int)).getD n 0 ∧ (chL (q : Int)).getD n 0 < 128 := by
  have h : q = 0 ∨ q = 1 ∨ q = 2 ∨ q = 3 := by omega
  rcases h with rfl | rfl | rfl | rfl
  · exact ch_0
  · exact ch_1
  · exact ch_2
  · exact ch_3
theorem sBy_l : ∀ q, q < 4 → (sBy q).length < 1000 := by decide +kernel
section RUN
variable {E : (Nat → Value) × (Nat → Nat)} {lo b L : Nat} {xs : Nat → Int32} {μ : rM}
theorem strNo_q (h : ∀ q r, q < 4 → r < 4 → E.2 q = E.2 r → q = r) {q : Nat} (hq : q < 4) : strNo E (E.2 q) = some q := by
  have n : ∀ r, r < 4 → r ≠ q → (E.2 r == E.2 q) = false := fun r hr hn => by
    rw [beq_eq_false_iff_ne]
    exact fun z => hn (h r q hr hq z)
  unfold strNo
  have e : List.range 4 = [0, 1, 2, 3] := rfl
  rw [e]
  have h4 : q = 0 ∨ q = 1 ∨ q = 2 ∨ q = 3 := by omega
  rcases h4 with rfl | rfl | rfl | rfl
  · simp [List.find?]
  · simp [List.find?, n 0 (by omega) (by omega)]
  · simp [List.find?, n 0 (by omega) (by omega), n 1 (by omega) (by omega)]
  · simp [List.find?, n 0 (by omega) (by omega), n 1 (by omega) (by omega), n 2 (by omega) (by omega)]
theorem Sta_0 (h : St0 E lo b L xs μ) : Sta E lo μ (fun a j => (ri μ a j.toNat).toInt) := by
  obtain ⟨h1, h2, h3, h4, h5, h6, h7, h8, h9, h10, h11⟩ := h
  have st : ∀ (q : Nat) (l : List Int), q < 5 → (l.length = (stA q).length ∧ ∀ n : Nat, n < l.length → l.getD n 0 = ((stA q).getD n 0).toInt) → ∃ t, StA E μ (fun a j => (ri μ a j.toNat).toInt) lo q t l := fun q l hq hl => by
    obtain ⟨t, t1, t2, t3, t4⟩ := h5 q hq
    refine ⟨t, t1, t2, by rw [hl.1]; exact t3, fun j g1 g2 => ?_⟩
    dsimp only
    rw [t4 _ (by omega)]
    unfold gl
    rw [hl.2 _ (by omega)]
  obtain ⟨t0, s0⟩ := st 0 nAt (by omega) gl_0
  obtain ⟨t1, s1⟩ := st 1 fL (by omega) gl_1
  obtain ⟨t2, s2⟩ := st 2 bAt (by omega) gl_2
  obtain ⟨t3, s3⟩ := st 3 loL (by omega) gl_3
  obtain ⟨t4, s4⟩ := st 4 hiL (by omega) gl_4
  refine ⟨⟨t0, t1, t2, t3, t4, s0, s1, s2, s3, s4⟩, fun q hq => ?_⟩
  obtain ⟨u1, u2, u3'⟩ := h8 q hq
  obtain ⟨c1, c2⟩ := ch_q q hq
  refine ⟨u1, strNo_q h9 hq, by rw [c1]; exact u2, ⟨by rw [c1]; exact sBy_l q hq, fun j g1 g2 => ?_⟩, h6, h7⟩
  dsimp only
  rw [u3' _ (by omega)]
  have := c2 j.toNat (by omega)
  unfold gl
  rw [this.1]
  rw [this.1] at this
  exact ⟨rfl, this.2⟩
theorem lawrun : LawRun := by
  intro E lo b L xs μ hL hSt
  have hS0 := Sta_0 hSt
  obtain ⟨h1, h2, h3, h4, h5, h6, h7, h8, h9, h10, h11⟩ := id hSt
  obtain ⟨I0, eI0⟩ : ∃ I0 : Nat → Int → Int, I0 = fun a j => (ri μ a j.toNat).toInt := ⟨_, rfl⟩
  have hmj : mj μ I0 = μ := by rw [eI0]; exact mj_of μ
  rw [← eI0] at hS0
  obtain ⟨L1, R1, I1, e1, ck, k1, k2, k3, k4, k5, k6, k7⟩ := con121 (E := E) (lo := lo) (d := 40) (μ := μ) (I := I0) (by omega) h1
  have hbl : blR 146 R1 = true := by
    unfold ckA at ck
    simp only [Bool.and_eq_true] at ck
    exact ck.1.1.1.1.1.1.1
  have e2 := con167 (E := E) (lo := lo) (d := 40) (z := lo + 146) (μ := bkl μ lo 146 L1 R1 8199) (I := I1) (by omega) (by omega) rfl
  rw [mg_bkl (L' := kMr) (m := 26) hbl rfl] at e2
  have hCO := CO_bkl (μ := μ) (lo := lo) ck
  obtain ⟨μ2, eμ2⟩ : ∃ μ2, μ2 = bkl μ lo 172 (kMr ++ L1) (shR 146 rMr ++ R1) 310214 := ⟨_, rfl⟩
  have e2' : cl E lo 40 167 [.ref (lo + 146)] (nw (mj (bkl μ lo 146 L1 R1 8199) I1) (.inl 12) 53) = some (none, mj μ2 (u3 (zI I1 (lo + 146) 25) (lo + 146 + 1) 6 (-1))) := by
    rw [eμ2]
    exact e2
  rw [← eμ2] at hCO
  obtain ⟨I2, eI2⟩ : ∃ I2, I2 = u3 (zI I1 (lo + 146) 25) (lo + 146 + 1) 6 (-1) := ⟨_, rfl⟩
  rw [← eI2] at e2'
  have f2 : ∀ a, a < lo + 146 → I2 a = I1 a := fun a z => by rw [eI2, u3_c (by omega), zI_n (by omega)]
  have f3 : ∀ j, I2 (lo + 147) j = if j = 6 then -1 else 0 := fun j => by
    rw [eI2]
    by_cases c : j = 6
    · rw [if_pos c, c]
      exact u3_s
    · rw [if_neg c, u3_n (fun z => c z.2), zI_z 25 (by omega) (by omega)]
      rfl
  have f4 : I2 (lo + 148) = Z0 := by rw [eI2, u3_c (by omega), zI_z 25 (by omega) (by omega)]
  have rk2 : ∀ a, a < lo → rk μ2 a = rk μ a := fun a z => by rw [eμ2]; exact rk_lt z
  have z0 : ∀ j, Z0 j = 0 := fun _ => rfl
  have hINV : INV E lo b L μ2 I2 := by
    refine ⟨hCO.1, Sta_m (Sta_fr hS0 (fun x z => by rw [f2 x (by omega), k1 x z])) rk2, ⟨h2, by rw [rk2 b h2]; exact h3, hL, fun j z1 z2 => ?_⟩, ⟨⟨?_, ?_⟩, ?_, ?_⟩, ?_, ?_, ?_⟩
    · rw [f2 b (by omega), k1 b h2, eI0]
      unfold i32
      have a1 := Int32.le_toInt (ri μ b j.toNat)
      have a2 := Int32.toInt_lt (ri μ b j.toNat)
      dsimp only
      omega
    · rw [f2 _ (by omega), k6]
      intro j _ _
      rw [z0]
      omega
    · rw [f2 _ (by omega), k7]
      intro j _ _
      rw [z0]
      omega
    · unfold SIL at *
      rw [f2 _ (by omega), f2 _ (by omega), f2 _ (by omega), f2 _ (by omega)]
      exact k5
    · have e0 : rws I2 (lo + 72) 0 = rws I1 (lo + 72) 0 := f2 _ (by omega)
      have e1 : rws I2 (lo + 72) 1 = rws I1 (lo + 72) 1 := f2 _ (by omega)
      unfold LV at *
      rw [e0, e1]
      exact k4
    · obtain ⟨w1, w2, w3, w4⟩ := k3
      refine ⟨fun s z1 z2 => ?_, ?_, ?_, fun j z1 z2 => ?_, fun x z1 z2 => ?_, fun x z1 z2 => ?_, fun x z1 z2 => ?_, fun x z1 z2 => ?_, ?_⟩
      · rw [f2 _ (by omega), w2, z0, f3, if_neg (by omega)]
        omega
      · rw [f2 _ (by omega), k2.1, f3, if_neg (by omega)]
        omega
      · rw [f2 _ (by omega), k2.2.1, k2.2.2, f3, f3, if_neg (by omega), if_pos rfl]
        exact ⟨rfl, rfl⟩
      · dsimp only
        rw [f2 _ (by omega), w1, z0, f3, if_neg (by omega)]
        exact ⟨rfl, by omega, by omega⟩
      · rw [f3, if_neg (by omega)] at z2
        omega
      · rw [f3, if_neg (by omega)] at z2
        omega
      · rw [f3, if_neg (by omega)] at z2
        omega
      · rw [f3, if_neg (by omega)] at z2
        omega
      · rw [f2 _ (by omega), f2 _ (by omega)]
        exact ⟨Or.inl w3, Or.inl w4⟩
    · intro k hk
      exact Or.inl ⟨by rw [f4]; rfl, hCO.2 k hk⟩
    · unfold ROOM
      rw [f4, z0, z0, z0, eμ2]
      refine ⟨?_, ?_⟩
      · show ((lo + 172 : Nat) : Int) = _
        omega
      · show ((ru μ + 310214 : Nat) : Int) = _
        rw [h11]
        rfl
  obtain ⟨μ3, I3, e3, h3'⟩ := law_loop (E := E) (lo := lo) (b := b) (L := L) (d := 40) (by omega) 4000 0 μ2 I2 hINV (by omega) (by omega) (by omega)
  refine ⟨mj μ3 I3, ?_, ?_, ?_⟩
  · have hz : rz (mj μ I0) = lo := h1
    have hz1 : rz (mj (bkl μ lo 146 L1 R1 8199) I1) = lo + 146 := rfl
    rw [← hmj, b312_0, hz, e1]
    simp only [Option.bind_some, Option.toList_some, Option.toList_none, List.cons_append, List.nil_append]
    rw [b312_7, hz1, e2']
    simp only [Option.bind_some, Option.toList_some, Option.toList_none, List.cons_append, List.nil_append]
    rw [b312_15]
    exact e3
  · have hG := h3'.2.2.2.2.2.1
    have hR := h3'.2.2.2.2.2.2
    have hsum : ∀ j : Nat, j < 3 → 0 ≤ I3 (lo + 148) (j : Int) ∧ I3 (lo + 148) (j : Int) ≤ 1 := fun j hj => by
      rcases hG j hj with q | q <;> omega
    have u0 : 0 ≤ I3 (lo + 148) 0 ∧ I3 (lo + 148) 0 ≤ 1 := hsum 0 (by omega)
    have u1 : 0 ≤ I3 (lo + 148) 1 ∧ I3 (lo + 148) 1 ≤ 1 := hsum 1 (by omega)
    have u2 : 0 ≤ I3 (lo + 148) 2 ∧ I3 (lo + 148) 2 ≤ 1 := hsum 2 (by omega)
    have := hR.1
    show rz μ3 ≤ lo + 1000
    omega
  · have hG := h3'.2.2.2.2.2.1
    have hR := h3'.2.2.2.2.2.2
    have hsum : ∀ j : Nat, j < 3 → 0 ≤ I3 (lo + 148) (j : Int) ∧ I3 (lo + 148) (j : Int) ≤ 1 := fun j hj => by
      rcases hG j hj with q | q <;> omega
    have u0 : 0 ≤ I3 (lo + 148) 0 ∧ I3 (lo + 148) 0 ≤ 1 := hsum 0 (by omega)
    have u1 : 0 ≤ I3 (lo + 148) 1 ∧ I3 (lo + 148) 1 ≤ 1 := hsum 1 (by omega)
    have u2 : 0 ≤ I3 (lo + 148) 2 ∧ I3 (lo + 148) 2 ≤ 1 := hsum 2 (by omega)
    have := hR.2
    show ru μ3 ≤ 400000
    omega
end RUN
