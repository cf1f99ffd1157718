/-! THE CLASS'S SCRIBE: the end of a street, whole texts -/
theorem ntZ_nt {Z : Nat → Int → Int} {k p k' p' : Int} (h : k ≠ 0) : ntZ (ntZ Z k p) k' p' = ntZ Z k p := by
  by_cases q : Z 0 6 = 0
  · have e : ntZ Z k p = u3 (u3 Z 0 6 k) 0 7 p := if_pos q
    rw [e]
    unfold ntZ
    rw [u3_n (by omega), u3_s, if_neg h]
  · have e : ntZ Z k p = Z := if_neg q
    rw [e]
    exact if_neg q
section CLOSE
variable {E : (Nat → Value) × (Nat → Nat)} {lo d b c : Nat} {μ : rM} {I Z : Nat → Int → Int} {s ln w n : Int} {B : Int → Int}
/-- one who stands in for the wrong one -/
def baS (S : Nat → Int → Int) (k : Int) : Bool := decide ((0 ≤ S 10 k ∧ S 10 k < S 0 3) ∧ ¬ (S 3 (S 10 k) = S 3 k ∧ S 2 (S 10 k) = 3))
def clN (Z : Nat → Int → Int) (n : Int) : Nat → Int → Int := if an (baS (rwk Z 2 13)) (Z 2 3) = true then ntZ (if Z 0 8 < p2 (Z 2 0) ∧ Z 0 9 < p2 (Z 2 3) then Z else ntZ Z 4 n) 5 n else (if Z 0 8 < p2 (Z 2 0) ∧ Z 0 9 < p2 (Z 2 3) then Z else ntZ Z 4 n)
theorem cls_sp (hd : 3 ≤ d) (hX : ShX μ c b) (hl : lo ≤ c) (h6 : i32 (Z 0 6)) (hI : StI (dZ 0 Z)) : cl E lo d 76 [.ref c, .int (J (n))] (mj μ (sB I c 23 Z)) = some (none, mj μ (sB I c 23 (clN Z n))) := by
  obtain ⟨d, rfl⟩ : ∃ e, d = e + 1 := ⟨d - 1, by omega⟩
  obtain ⟨⟨hXk, hX0, hX1, hX2, hX3, hX4, hX5⟩, hXn, hXS, hXL, hXR, hXC, hXr⟩ := id hX
  have hlNu : lo ≤ c + 1 := by omega
  have hlS : lo ≤ c + 2 := by omega
  have hlL : lo ≤ c + 15 := by omega
  have hlR : lo ≤ c + 17 := by omega
  have hlC : lo ≤ c + 20 := by omega
  obtain ⟨i1, _, i3, i4, _, i6, i7⟩ := hI
  have i1' : 1 ≤ Z 2 0 ∧ Z 2 0 ≤ 8 ∧ 0 ≤ Z 2 1 ∧ Z 2 1 < 256 ∧ 0 ≤ Z 2 3 ∧ Z 2 3 ≤ 9 ∧ 0 ≤ Z 2 13 ∧ Z 2 13 ≤ 8 := i1
  have i3' : ∀ k, 0 ≤ k → k < Z 2 3 → (0 ≤ Z 4 k ∧ Z 4 k ≤ 3) ∧ (0 ≤ Z 5 k ∧ Z 5 k ≤ 7) := fun k a e => ⟨(i3 k a e).1, (i3 k a e).2.1⟩
  have i4' : ∀ k, 0 ≤ k → k < 9 → -1 ≤ Z 12 k ∧ Z 12 k ≤ 8 := fun k a e => (i4 k a e).2.1
  have i6' : 0 ≤ Z 0 8 ∧ Z 0 8 < 256 := i6
  have i7' : 0 ≤ Z 0 9 ∧ Z 0 9 < 512 := i7
  clear i1 i3 i4 i6 i7
  have hnt := fun Z' h => note_sp (E := E) (lo := lo) (d := d) (I := I) (Z := Z') (k := 4) (p := n) (by omega) hX hl h
  have hnt5 := fun Z' h => note_sp (E := E) (lo := lo) (d := d) (I := I) (Z := Z') (k := 5) (p := n) (by omega) hX hl h
  have nz : ∀ {a k : Int}, 0 ≤ a → a < 1000 → (a / p2 k = 0) = (a < p2 k) := by
    intro a k ha _
    have hp := p2_0 k
    apply propext
    constructor
    · intro h
      by_cases q : a < p2 k
      · exact q
      · exfalso
        have := Int.ediv_le_ediv hp (show p2 k ≤ a by omega)
        rw [Int.ediv_self (by omega)] at this
        omega
    · intro h
      exact Int.ediv_eq_zero_of_lt ha h
  have d0 : ∀ {a k : Int}, 0 ≤ a → a < 1000 → 0 ≤ a / p2 k ∧ a / p2 k < 1000 := by
    intro a k ha hb
    have hp := p2_0 k
    have := div_b (a := a) (b := p2 k) ha hp
    omega
  have n8 := nz (a := Z 0 8) (k := Z 2 0) (by omega) (by omega)
  have n9 := nz (a := Z 0 9) (k := Z 2 3) (by omega) (by omega)
  have d8 := d0 (a := Z 0 8) (k := Z 2 0) (by omega) (by omega)
  have d9 := d0 (a := Z 0 9) (k := Z 2 3) (by omega) (by omega)
  obtain ⟨Z1, hZ1⟩ : ∃ Z1, Z1 = if Z 0 8 < p2 (Z 2 0) ∧ Z 0 9 < p2 (Z 2 3) then Z else ntZ Z 4 n := ⟨_, rfl⟩
  have s1 : cl E lo (d + 1) 76 [.ref c, .int (J n)] (mj μ (sB I c 23 Z)) = ex PG E lo d 76 38 [some (.ref c), some (.int (J (n))), some (.int (J (0))), none] [] (mj μ (sB I c 23 Z1)) := by
    rw [hZ1]
    have h4 := hnt Z h6
    by_cases q1 : Z 0 8 < p2 (Z 2 0)
    · have e8 : Z 0 8 / p2 (Z 2 0) = 0 := n8.mpr q1
      by_cases q2 : Z 0 9 < p2 (Z 2 3)
      · have e9 : Z 0 9 / p2 (Z 2 3) = 0 := n9.mpr q2
        rw [if_pos ⟨q1, q2⟩]
        simp (disch := omega) only [b76_0, b76_15, b76_36, e76, gO_k hXk, gP_k hXk hl, gR_k hX0, gR_k hX1, gR_k hX2, gR_k hX3, gR_k hX4, gR_k hX5, rdA_k hXn, wrA_k hXn hlNu, gO_k hXr.1, gO_S hXS, gR_S2 hXS, gR_S4 hXS, gR_S5 hXS, gR_S6 hXS, gR_S7 hXS, gR_S8 hXS, gR_S9 hXS, gR_S10 hXS, gR_S11 hXS, gR_S12 hXS, gR_S14 hXS, gR_S15 hXS, al_S1 hXS, al_S2 hXS, al_S3 hXS, al_S4 hXS, al_S5 hXS, al_S6 hXS, al_S7 hXS, al_S8 hXS, al_S9 hXS, al_S10 hXS, al_S11 hXS, al_S12 hXS, rd_S1 hXS, rd_S2 hXS, rd_S3 hXS, rd_S4 hXS, rd_S5 hXS, rd_S6 hXS, rd_S7 hXS, rd_S8 hXS, rd_S9 hXS, rd_S10 hXS, rd_S11 hXS, rd_S12 hXS, gP_S hXS hlS, wr_S1 hXS hlS, wr_S2 hXS hlS, wr_S3 hXS hlS, wr_S4 hXS hlS, wr_S5 hXS hlS, wr_S6 hXS hlS, wr_S7 hXS hlS, wr_S8 hXS hlS, wr_S9 hXS hlS, wr_S10 hXS hlS, wr_S11 hXS hlS, wr_S12 hXS hlS, gO_L hXL, gR_L5 hXL, al_L1 hXL, rd_L1 hXL, gP_L hXL hlL, wr_L1 hXL hlL, gO_R hXR, gR_R3 hXR, gR_R4 hXR, al_R1 hXR, al_R2 hXR, rd_R1 hXR, rd_R2 hXR, gP_R hXR hlR, wr_R1 hXR hlR, wr_R2 hXR hlR, gO_C hXC, gR_C1 hXC, al_C1 hXC, rd_C1 hXC, gP_C hXC hlC, wr_C1 hXC hlC, Nat.add_assoc, Nat.reduceAdd, sB_0, sB_c, u3_sB0, u3_sB, u3_s, u3_n, Nat.reduceLT, e8, e9, Jl0, Jl1, Jl2, Jl3, Jl4, Jl5, Jl6, Jl7, Jl8, Jl9, Jl10, Jl11, Jl12, Jl13, Jl14, Jl15, Jl16, Jl17, Jl18, Jl19, Jl20, Jl22, Jl24, Jl28, Jl30, Jl31, Jl32, Jl35, Jl36, Jl37, Jl38, Jl39, Jl40, Jl48, Jl57, Jl59, Jl60, Jl61, Jl63, Jl64, Jl68, Jl69, Jl96, Jl97, Jl98, Jl99, Jl100, Jl122, Jl149, Jl150, Jl165, Jl255, Jl511, Jl512, Jl600, Jl610, Jl940, Jl968, Jl999, Jl1134, Jl1152, Jl2048, Jl4608, Jl9999, Jl99999, Jl100000, Jl147456, Jl12345, Jl1103515245, Jl100000000, Jlm1, Jlm2, J_add, J_sub, J_mul, J_lt, J_le, J_eq, J_ite, J_cl, ri_j, wi_j, b2i_z, b2i_o, b2i_zo, Int.cast_ofNat_Int, Int.natCast_zero, Int.natCast_one, if_true, if_false, ite_self, Int.le_refl, J_bit, J_or, J_neg, J_oN, Int.reduceEq, Int.reduceLT, Int.reduceLE, Int.reduceNeg, Int.reduceAdd, Int.reduceSub, Int.reduceMul, Int.reduceToNat, J_shl, J_shr, V_ite, true_or, or_true, nz_j, J_div, J_rem, Option.bind_some, Option.toList_some, Option.toList_none, List.cons_append, List.nil_append, Jl21, Jl23, Jl25, Jl74, Jl83, Jl288, Jl324, Jl1800, Jlm8]
      · have e9 : ¬ Z 0 9 / p2 (Z 2 3) = 0 := fun z => q2 (n9.mp z)
        rw [if_neg (fun z => q2 z.2)]
        simp (disch := omega) only [b76_0, b76_15, b76_30, b76_36, e76, gO_k hXk, gP_k hXk hl, gR_k hX0, gR_k hX1, gR_k hX2, gR_k hX3, gR_k hX4, gR_k hX5, rdA_k hXn, wrA_k hXn hlNu, gO_k hXr.1, gO_S hXS, gR_S2 hXS, gR_S4 hXS, gR_S5 hXS, gR_S6 hXS, gR_S7 hXS, gR_S8 hXS, gR_S9 hXS, gR_S10 hXS, gR_S11 hXS, gR_S12 hXS, gR_S14 hXS, gR_S15 hXS, al_S1 hXS, al_S2 hXS, al_S3 hXS, al_S4 hXS, al_S5 hXS, al_S6 hXS, al_S7 hXS, al_S8 hXS, al_S9 hXS, al_S10 hXS, al_S11 hXS, al_S12 hXS, rd_S1 hXS, rd_S2 hXS, rd_S3 hXS, rd_S4 hXS, rd_S5 hXS, rd_S6 hXS, rd_S7 hXS, rd_S8 hXS, rd_S9 hXS, rd_S10 hXS, rd_S11 hXS, rd_S12 hXS, gP_S hXS hlS, wr_S1 hXS hlS, wr_S2 hXS hlS, wr_S3 hXS hlS, wr_S4 hXS hlS, wr_S5 hXS hlS, wr_S6 hXS hlS, wr_S7 hXS hlS, wr_S8 hXS hlS, wr_S9 hXS hlS, wr_S10 hXS hlS, wr_S11 hXS hlS, wr_S12 hXS hlS, gO_L hXL, gR_L5 hXL, al_L1 hXL, rd_L1 hXL, gP_L hXL hlL, wr_L1 hXL hlL, gO_R hXR, gR_R3 hXR, gR_R4 hXR, al_R1 hXR, al_R2 hXR, rd_R1 hXR, rd_R2 hXR, gP_R hXR hlR, wr_R1 hXR hlR, wr_R2 hXR hlR, gO_C hXC, gR_C1 hXC, al_C1 hXC, rd_C1 hXC, gP_C hXC hlC, wr_C1 hXC hlC, Nat.add_assoc, Nat.reduceAdd, sB_0, sB_c, u3_sB0, u3_sB, u3_s, u3_n, Nat.reduceLT, e8, h4, Jl0, Jl1, Jl2, Jl3, Jl4, Jl5, Jl6, Jl7, Jl8, Jl9, Jl10, Jl11, Jl12, Jl13, Jl14, Jl15, Jl16, Jl17, Jl18, Jl19, Jl20, Jl22, Jl24, Jl28, Jl30, Jl31, Jl32, Jl35, Jl36, Jl37, Jl38, Jl39, Jl40, Jl48, Jl57, Jl59, Jl60, Jl61, Jl63, Jl64, Jl68, Jl69, Jl96, Jl97, Jl98, Jl99, Jl100, Jl122, Jl149, Jl150, Jl165, Jl255, Jl511, Jl512, Jl600, Jl610, Jl940, Jl968, Jl999, Jl1134, Jl1152, Jl2048, Jl4608, Jl9999, Jl99999, Jl100000, Jl147456, Jl12345, Jl1103515245, Jl100000000, Jlm1, Jlm2, J_add, J_sub, J_mul, J_lt, J_le, J_eq, J_ite, J_cl, ri_j, wi_j, b2i_z, b2i_o, b2i_zo, Int.cast_ofNat_Int, Int.natCast_zero, Int.natCast_one, if_true, if_false, ite_self, Int.le_refl, J_bit, J_or, J_neg, J_oN, Int.reduceEq, Int.reduceLT, Int.reduceLE, Int.reduceNeg, Int.reduceAdd, Int.reduceSub, Int.reduceMul, Int.reduceToNat, J_shl, J_shr, V_ite, true_or, or_true, nz_j, J_div, J_rem, Option.bind_some, Option.toList_some, Option.toList_none, List.cons_append, List.nil_append, Jl21, Jl23, Jl25, Jl74, Jl83, Jl288, Jl324, Jl1800, Jlm8]
        repeat (first | rw [if_neg (by omega)] | rw [if_pos (by omega)])
    · have e8 : ¬ Z 0 8 / p2 (Z 2 0) = 0 := fun z => q1 (n8.mp z)
      rw [if_neg (fun z => q1 z.1)]
      simp (disch := omega) only [b76_0, b76_30, b76_36, e76, gO_k hXk, gP_k hXk hl, gR_k hX0, gR_k hX1, gR_k hX2, gR_k hX3, gR_k hX4, gR_k hX5, rdA_k hXn, wrA_k hXn hlNu, gO_k hXr.1, gO_S hXS, gR_S2 hXS, gR_S4 hXS, gR_S5 hXS, gR_S6 hXS, gR_S7 hXS, gR_S8 hXS, gR_S9 hXS, gR_S10 hXS, gR_S11 hXS, gR_S12 hXS, gR_S14 hXS, gR_S15 hXS, al_S1 hXS, al_S2 hXS, al_S3 hXS, al_S4 hXS, al_S5 hXS, al_S6 hXS, al_S7 hXS, al_S8 hXS, al_S9 hXS, al_S10 hXS, al_S11 hXS, al_S12 hXS, rd_S1 hXS, rd_S2 hXS, rd_S3 hXS, rd_S4 hXS, rd_S5 hXS, rd_S6 hXS, rd_S7 hXS, rd_S8 hXS, rd_S9 hXS, rd_S10 hXS, rd_S11 hXS, rd_S12 hXS, gP_S hXS hlS, wr_S1 hXS hlS, wr_S2 hXS hlS, wr_S3 hXS hlS, wr_S4 hXS hlS, wr_S5 hXS hlS, wr_S6 hXS hlS, wr_S7 hXS hlS, wr_S8 hXS hlS, wr_S9 hXS hlS, wr_S10 hXS hlS, wr_S11 hXS hlS, wr_S12 hXS hlS, gO_L hXL, gR_L5 hXL, al_L1 hXL, rd_L1 hXL, gP_L hXL hlL, wr_L1 hXL hlL, gO_R hXR, gR_R3 hXR, gR_R4 hXR, al_R1 hXR, al_R2 hXR, rd_R1 hXR, rd_R2 hXR, gP_R hXR hlR, wr_R1 hXR hlR, wr_R2 hXR hlR, gO_C hXC, gR_C1 hXC, al_C1 hXC, rd_C1 hXC, gP_C hXC hlC, wr_C1 hXC hlC, Nat.add_assoc, Nat.reduceAdd, sB_0, sB_c, u3_sB0, u3_sB, u3_s, u3_n, Nat.reduceLT, h4, Jl0, Jl1, Jl2, Jl3, Jl4, Jl5, Jl6, Jl7, Jl8, Jl9, Jl10, Jl11, Jl12, Jl13, Jl14, Jl15, Jl16, Jl17, Jl18, Jl19, Jl20, Jl22, Jl24, Jl28, Jl30, Jl31, Jl32, Jl35, Jl36, Jl37, Jl38, Jl39, Jl40, Jl48, Jl57, Jl59, Jl60, Jl61, Jl63, Jl64, Jl68, Jl69, Jl96, Jl97, Jl98, Jl99, Jl100, Jl122, Jl149, Jl150, Jl165, Jl255, Jl511, Jl512, Jl600, Jl610, Jl940, Jl968, Jl999, Jl1134, Jl1152, Jl2048, Jl4608, Jl9999, Jl99999, Jl100000, Jl147456, Jl12345, Jl1103515245, Jl100000000, Jlm1, Jlm2, J_add, J_sub, J_mul, J_lt, J_le, J_eq, J_ite, J_cl, ri_j, wi_j, b2i_z, b2i_o, b2i_zo, Int.cast_ofNat_Int, Int.natCast_zero, Int.natCast_one, if_true, if_false, ite_self, Int.le_refl, J_bit, J_or, J_neg, J_oN, Int.reduceEq, Int.reduceLT, Int.reduceLE, Int.reduceNeg, Int.reduceAdd, Int.reduceSub, Int.reduceMul, Int.reduceToNat, J_shl, J_shr, V_ite, true_or, or_true, nz_j, J_div, J_rem, Option.bind_some, Option.toList_some, Option.toList_none, List.cons_append, List.nil_append, Jl21, Jl23, Jl25, Jl74, Jl83, Jl288, Jl324, Jl1800, Jlm8]
      repeat (first | rw [if_neg (by omega)] | rw [if_pos (by omega)])
  have z1c : ∀ a, a ≠ 0 → Z1 a = Z a := fun a ha => by
    rw [hZ1]
    split
    · rfl
    · exact ntZ_c ha
  have z16 : i32 (Z1 0 6) := by
    rw [hZ1]
    split
    · exact h6
    · have e := congrArg Prod.fst (ntZ_q (Z := Z) (k := 4) (p := n))
      dsimp only at e
      rw [e]
      split
      · unfold i32; dsimp only; omega
      · exact h6
  rw [s1]
  obtain ⟨q, LL⟩ := loopq (fun k q => ex PG E lo d 76 38 [some (.ref c), some (.int (J (n))), some (.int (J (k))), q] [] (mj μ (sB I c 23 (if an (baS (rwk Z 2 13)) k = true then ntZ Z1 5 n else Z1)))) (a := 0) (n := Z 2 3) (fun k q e1 e2 => by
    have ik := i4' k e1 (by omega)
    have i3k := i3' k e1 e2
    refine ⟨some (.int (J (Z 12 k))), ?_⟩
    obtain ⟨Y, hY⟩ : ∃ Y, Y = if an (baS (rwk Z 2 13)) k = true then ntZ Z1 5 n else Z1 := ⟨_, rfl⟩
    rw [← hY]
    have yc : ∀ a, a ≠ 0 → Y a = Z a := fun a ha => by
      rw [hY]
      split
      · rw [ntZ_c ha, z1c a ha]
      · exact z1c a ha
    have y6 : i32 (Y 0 6) := by
      rw [hY]
      split
      · have e := congrArg Prod.fst (ntZ_q (Z := Z1) (k := 5) (p := n))
        dsimp only at e
        rw [e]
        split
        · unfold i32; dsimp only; omega
        · exact z16
      · exact z16
    have y2 := yc 2 (by decide)
    have y12 := yc 12 (by decide)
    have y5 := yc 5 (by decide)
    have y4 := yc 4 (by decide)
    have hAt : AtS μ (sB I c 23 Y) (c + 2) (rwk Y 2 13) := ⟨hXS, fun f hf => by rw [rwk_g hf, Nat.add_assoc, sB_c (by omega)]⟩
    have hs : cl E lo d 81 [.ref (c + 2), .int (J (Z 12 k))] (mj μ (sB I c 23 Y)) = some (some (.int (J (b2i (decide (0 ≤ Z 12 k ∧ Z 12 k < Z 2 3))))), mj μ (sB I c 23 Y)) := by
      obtain ⟨d', rfl⟩ : ∃ e, d = e + 1 := ⟨d - 1, by omega⟩
      simp (disch := omega) only [e81, b81_0, b81_4, b81_12, b81_16, b81_17, gO_S hXS, ri_j, sB_c, y2, Jl0, Jl1, Jl2, Jl3, Jl4, Jl5, Jl6, Jl7, Jl8, Jl9, Jl10, Jl11, Jl12, Jl13, Jl14, Jl15, Jl16, Jl17, Jl18, Jl19, Jl20, Jl22, Jl24, Jl28, Jl30, Jl31, Jl32, Jl35, Jl36, Jl37, Jl38, Jl39, Jl40, Jl48, Jl57, Jl59, Jl60, Jl61, Jl63, Jl64, Jl68, Jl69, Jl96, Jl97, Jl98, Jl99, Jl100, Jl122, Jl149, Jl150, Jl165, Jl255, Jl511, Jl512, Jl600, Jl610, Jl940, Jl968, Jl999, Jl1134, Jl1152, Jl2048, Jl4608, Jl9999, Jl99999, Jl100000, Jl147456, Jl12345, Jl1103515245, Jl100000000, Jlm1, Jlm2, J_add, J_sub, J_mul, J_lt, J_le, J_eq, J_ite, J_cl, ri_j, wi_j, b2i_z, b2i_o, b2i_zo, Int.cast_ofNat_Int, Int.natCast_zero, Int.natCast_one, if_true, if_false, ite_self, Int.le_refl, J_bit, J_or, J_neg, J_oN, Int.reduceEq, Int.reduceLT, Int.reduceLE, Int.reduceNeg, Int.reduceAdd, Int.reduceSub, Int.reduceMul, Int.reduceToNat, J_shl, J_shr, V_ite, true_or, or_true, nz_j, J_div, J_rem, Option.bind_some, Option.toList_some, Option.toList_none, List.cons_append, List.nil_append]
      refine V_ok _ ?_
      grind [b2i]
    have hbk : baS (rwk Z 2 13) k = decide ((0 ≤ Z 12 k ∧ Z 12 k < Z 2 3) ∧ ¬ (Z 5 (Z 12 k) = Z 5 k ∧ Z 4 (Z 12 k) = 3)) := rfl
    have h5 := hnt5 Y y6
    have yn : ntZ Y 5 n = ntZ Z1 5 n := by
      rw [hY]
      split
      · exact ntZ_nt (by decide)
      · rfl
    rw [yn] at h5
    rw [b76_38, an_s _ e1, hbk]
    by_cases qw : 0 ≤ Z 12 k ∧ Z 12 k < Z 2 3
    · rw [decide_eq_true qw] at hs
      have i3w := i3' (Z 12 k) qw.1 qw.2
      by_cases qb : Z 5 (Z 12 k) = Z 5 k ∧ Z 4 (Z 12 k) = 3
      · rw [decide_eq_false (fun z => z.2 qb), Bool.or_false, ← hY]
        simp (disch := omega) only [b76_49, b76_67, b76_70, b76_91, b76_110, gO_k hXk, gP_k hXk hl, gR_k hX0, gR_k hX1, gR_k hX2, gR_k hX3, gR_k hX4, gR_k hX5, rdA_k hXn, wrA_k hXn hlNu, gO_k hXr.1, gO_S hXS, gR_S2 hXS, gR_S4 hXS, gR_S5 hXS, gR_S6 hXS, gR_S7 hXS, gR_S8 hXS, gR_S9 hXS, gR_S10 hXS, gR_S11 hXS, gR_S12 hXS, gR_S14 hXS, gR_S15 hXS, al_S1 hXS, al_S2 hXS, al_S3 hXS, al_S4 hXS, al_S5 hXS, al_S6 hXS, al_S7 hXS, al_S8 hXS, al_S9 hXS, al_S10 hXS, al_S11 hXS, al_S12 hXS, rd_S1 hXS, rd_S2 hXS, rd_S3 hXS, rd_S4 hXS, rd_S5 hXS, rd_S6 hXS, rd_S7 hXS, rd_S8 hXS, rd_S9 hXS, rd_S10 hXS, rd_S11 hXS, rd_S12 hXS, gP_S hXS hlS, wr_S1 hXS hlS, wr_S2 hXS hlS, wr_S3 hXS hlS, wr_S4 hXS hlS, wr_S5 hXS hlS, wr_S6 hXS hlS, wr_S7 hXS hlS, wr_S8 hXS hlS, wr_S9 hXS hlS, wr_S10 hXS hlS, wr_S11 hXS hlS, wr_S12 hXS hlS, gO_L hXL, gR_L5 hXL, al_L1 hXL, rd_L1 hXL, gP_L hXL hlL, wr_L1 hXL hlL, gO_R hXR, gR_R3 hXR, gR_R4 hXR, al_R1 hXR, al_R2 hXR, rd_R1 hXR, rd_R2 hXR, gP_R hXR hlR, wr_R1 hXR hlR, wr_R2 hXR hlR, gO_C hXC, gR_C1 hXC, al_C1 hXC, rd_C1 hXC, gP_C hXC hlC, wr_C1 hXC hlC, Nat.add_assoc, Nat.reduceAdd, sB_0, sB_c, u3_sB0, u3_sB, u3_s, u3_n, Nat.reduceLT, y2, y12, y5, y4, hs, b2i_t, qb.1, qb.2, Jl0, Jl1, Jl2, Jl3, Jl4, Jl5, Jl6, Jl7, Jl8, Jl9, Jl10, Jl11, Jl12, Jl13, Jl14, Jl15, Jl16, Jl17, Jl18, Jl19, Jl20, Jl22, Jl24, Jl28, Jl30, Jl31, Jl32, Jl35, Jl36, Jl37, Jl38, Jl39, Jl40, Jl48, Jl57, Jl59, Jl60, Jl61, Jl63, Jl64, Jl68, Jl69, Jl96, Jl97, Jl98, Jl99, Jl100, Jl122, Jl149, Jl150, Jl165, Jl255, Jl511, Jl512, Jl600, Jl610, Jl940, Jl968, Jl999, Jl1134, Jl1152, Jl2048, Jl4608, Jl9999, Jl99999, Jl100000, Jl147456, Jl12345, Jl1103515245, Jl100000000, Jlm1, Jlm2, J_add, J_sub, J_mul, J_lt, J_le, J_eq, J_ite, J_cl, ri_j, wi_j, b2i_z, b2i_o, b2i_zo, Int.cast_ofNat_Int, Int.natCast_zero, Int.natCast_one, if_true, if_false, ite_self, Int.le_refl, J_bit, J_or, J_neg, J_oN, Int.reduceEq, Int.reduceLT, Int.reduceLE, Int.reduceNeg, Int.reduceAdd, Int.reduceSub, Int.reduceMul, Int.reduceToNat, J_shl, J_shr, V_ite, true_or, or_true, nz_j, J_div, J_rem, Option.bind_some, Option.toList_some, Option.toList_none, List.cons_append, List.nil_append, Jl21, Jl23, Jl25, Jl74, Jl83, Jl288, Jl324, Jl1800, Jlm8]
        repeat (first | rw [if_neg (by omega)] | rw [if_pos (by omega)])
      · rw [decide_eq_true ⟨qw, qb⟩, Bool.or_true, if_pos rfl]
        by_cases qh : Z 5 (Z 12 k) = Z 5 k
        · have qm : ¬ Z 4 (Z 12 k) = 3 := fun z => qb ⟨qh, z⟩
          simp (disch := omega) only [b76_49, b76_67, b76_70, b76_91, b76_104, b76_110, gO_k hXk, gP_k hXk hl, gR_k hX0, gR_k hX1, gR_k hX2, gR_k hX3, gR_k hX4, gR_k hX5, rdA_k hXn, wrA_k hXn hlNu, gO_k hXr.1, gO_S hXS, gR_S2 hXS, gR_S4 hXS, gR_S5 hXS, gR_S6 hXS, gR_S7 hXS, gR_S8 hXS, gR_S9 hXS, gR_S10 hXS, gR_S11 hXS, gR_S12 hXS, gR_S14 hXS, gR_S15 hXS, al_S1 hXS, al_S2 hXS, al_S3 hXS, al_S4 hXS, al_S5 hXS, al_S6 hXS, al_S7 hXS, al_S8 hXS, al_S9 hXS, al_S10 hXS, al_S11 hXS, al_S12 hXS, rd_S1 hXS, rd_S2 hXS, rd_S3 hXS, rd_S4 hXS, rd_S5 hXS, rd_S6 hXS, rd_S7 hXS, rd_S8 hXS, rd_S9 hXS, rd_S10 hXS, rd_S11 hXS, rd_S12 hXS, gP_S hXS hlS, wr_S1 hXS hlS, wr_S2 hXS hlS, wr_S3 hXS hlS, wr_S4 hXS hlS, wr_S5 hXS hlS, wr_S6 hXS hlS, wr_S7 hXS hlS, wr_S8 hXS hlS, wr_S9 hXS hlS, wr_S10 hXS hlS, wr_S11 hXS hlS, wr_S12 hXS hlS, gO_L hXL, gR_L5 hXL, al_L1 hXL, rd_L1 hXL, gP_L hXL hlL, wr_L1 hXL hlL, gO_R hXR, gR_R3 hXR, gR_R4 hXR, al_R1 hXR, al_R2 hXR, rd_R1 hXR, rd_R2 hXR, gP_R hXR hlR, wr_R1 hXR hlR, wr_R2 hXR hlR, gO_C hXC, gR_C1 hXC, al_C1 hXC, rd_C1 hXC, gP_C hXC hlC, wr_C1 hXC hlC, Nat.add_assoc, Nat.reduceAdd, sB_0, sB_c, u3_sB0, u3_sB, u3_s, u3_n, Nat.reduceLT, y2, y12, y5, y4, hs, b2i_t, qh, h5, Jl0, Jl1, Jl2, Jl3, Jl4, Jl5, Jl6, Jl7, Jl8, Jl9, Jl10, Jl11, Jl12, Jl13, Jl14, Jl15, Jl16, Jl17, Jl18, Jl19, Jl20, Jl22, Jl24, Jl28, Jl30, Jl31, Jl32, Jl35, Jl36, Jl37, Jl38, Jl39, Jl40, Jl48, Jl57, Jl59, Jl60, Jl61, Jl63, Jl64, Jl68, Jl69, Jl96, Jl97, Jl98, Jl99, Jl100, Jl122, Jl149, Jl150, Jl165, Jl255, Jl511, Jl512, Jl600, Jl610, Jl940, Jl968, Jl999, Jl1134, Jl1152, Jl2048, Jl4608, Jl9999, Jl99999, Jl100000, Jl147456, Jl12345, Jl1103515245, Jl100000000, Jlm1, Jlm2, J_add, J_sub, J_mul, J_lt, J_le, J_eq, J_ite, J_cl, ri_j, wi_j, b2i_z, b2i_o, b2i_zo, Int.cast_ofNat_Int, Int.natCast_zero, Int.natCast_one, if_true, if_false, ite_self, Int.le_refl, J_bit, J_or, J_neg, J_oN, Int.reduceEq, Int.reduceLT, Int.reduceLE, Int.reduceNeg, Int.reduceAdd, Int.reduceSub, Int.reduceMul, Int.reduceToNat, J_shl, J_shr, V_ite, true_or, or_true, nz_j, J_div, J_rem, Option.bind_some, Option.toList_some, Option.toList_none, List.cons_append, List.nil_append, Jl21, Jl23, Jl25, Jl74, Jl83, Jl288, Jl324, Jl1800, Jlm8]
          repeat (first | rw [if_neg (by omega)] | rw [if_pos (by omega)])
        · simp (disch := omega) only [b76_49, b76_67, b76_70, b76_104, b76_110, gO_k hXk, gP_k hXk hl, gR_k hX0, gR_k hX1, gR_k hX2, gR_k hX3, gR_k hX4, gR_k hX5, rdA_k hXn, wrA_k hXn hlNu, gO_k hXr.1, gO_S hXS, gR_S2 hXS, gR_S4 hXS, gR_S5 hXS, gR_S6 hXS, gR_S7 hXS, gR_S8 hXS, gR_S9 hXS, gR_S10 hXS, gR_S11 hXS, gR_S12 hXS, gR_S14 hXS, gR_S15 hXS, al_S1 hXS, al_S2 hXS, al_S3 hXS, al_S4 hXS, al_S5 hXS, al_S6 hXS, al_S7 hXS, al_S8 hXS, al_S9 hXS, al_S10 hXS, al_S11 hXS, al_S12 hXS, rd_S1 hXS, rd_S2 hXS, rd_S3 hXS, rd_S4 hXS, rd_S5 hXS, rd_S6 hXS, rd_S7 hXS, rd_S8 hXS, rd_S9 hXS, rd_S10 hXS, rd_S11 hXS, rd_S12 hXS, gP_S hXS hlS, wr_S1 hXS hlS, wr_S2 hXS hlS, wr_S3 hXS hlS, wr_S4 hXS hlS, wr_S5 hXS hlS, wr_S6 hXS hlS, wr_S7 hXS hlS, wr_S8 hXS hlS, wr_S9 hXS hlS, wr_S10 hXS hlS, wr_S11 hXS hlS, wr_S12 hXS hlS, gO_L hXL, gR_L5 hXL, al_L1 hXL, rd_L1 hXL, gP_L hXL hlL, wr_L1 hXL hlL, gO_R hXR, gR_R3 hXR, gR_R4 hXR, al_R1 hXR, al_R2 hXR, rd_R1 hXR, rd_R2 hXR, gP_R hXR hlR, wr_R1 hXR hlR, wr_R2 hXR hlR, gO_C hXC, gR_C1 hXC, al_C1 hXC, rd_C1 hXC, gP_C hXC hlC, wr_C1 hXC hlC, Nat.add_assoc, Nat.reduceAdd, sB_0, sB_c, u3_sB0, u3_sB, u3_s, u3_n, Nat.reduceLT, y2, y12, y5, y4, hs, b2i_t, h5, Jl0, Jl1, Jl2, Jl3, Jl4, Jl5, Jl6, Jl7, Jl8, Jl9, Jl10, Jl11, Jl12, Jl13, Jl14, Jl15, Jl16, Jl17, Jl18, Jl19, Jl20, Jl22, Jl24, Jl28, Jl30, Jl31, Jl32, Jl35, Jl36, Jl37, Jl38, Jl39, Jl40, Jl48, Jl57, Jl59, Jl60, Jl61, Jl63, Jl64, Jl68, Jl69, Jl96, Jl97, Jl98, Jl99, Jl100, Jl122, Jl149, Jl150, Jl165, Jl255, Jl511, Jl512, Jl600, Jl610, Jl940, Jl968, Jl999, Jl1134, Jl1152, Jl2048, Jl4608, Jl9999, Jl99999, Jl100000, Jl147456, Jl12345, Jl1103515245, Jl100000000, Jlm1, Jlm2, J_add, J_sub, J_mul, J_lt, J_le, J_eq, J_ite, J_cl, ri_j, wi_j, b2i_z, b2i_o, b2i_zo, Int.cast_ofNat_Int, Int.natCast_zero, Int.natCast_one, if_true, if_false, ite_self, Int.le_refl, J_bit, J_or, J_neg, J_oN, Int.reduceEq, Int.reduceLT, Int.reduceLE, Int.reduceNeg, Int.reduceAdd, Int.reduceSub, Int.reduceMul, Int.reduceToNat, J_shl, J_shr, V_ite, true_or, or_true, nz_j, J_div, J_rem, Option.bind_some, Option.toList_some, Option.toList_none, List.cons_append, List.nil_append, Jl21, Jl23, Jl25, Jl74, Jl83, Jl288, Jl324, Jl1800, Jlm8]
          repeat (first | rw [if_neg (by omega)] | rw [if_pos (by omega)])
    · rw [decide_eq_false qw] at hs
      rw [decide_eq_false (fun z => qw z.1), Bool.or_false, ← hY]
      simp (disch := omega) only [b76_49, b76_67, b76_110, gO_k hXk, gP_k hXk hl, gR_k hX0, gR_k hX1, gR_k hX2, gR_k hX3, gR_k hX4, gR_k hX5, rdA_k hXn, wrA_k hXn hlNu, gO_k hXr.1, gO_S hXS, gR_S2 hXS, gR_S4 hXS, gR_S5 hXS, gR_S6 hXS, gR_S7 hXS, gR_S8 hXS, gR_S9 hXS, gR_S10 hXS, gR_S11 hXS, gR_S12 hXS, gR_S14 hXS, gR_S15 hXS, al_S1 hXS, al_S2 hXS, al_S3 hXS, al_S4 hXS, al_S5 hXS, al_S6 hXS, al_S7 hXS, al_S8 hXS, al_S9 hXS, al_S10 hXS, al_S11 hXS, al_S12 hXS, rd_S1 hXS, rd_S2 hXS, rd_S3 hXS, rd_S4 hXS, rd_S5 hXS, rd_S6 hXS, rd_S7 hXS, rd_S8 hXS, rd_S9 hXS, rd_S10 hXS, rd_S11 hXS, rd_S12 hXS, gP_S hXS hlS, wr_S1 hXS hlS, wr_S2 hXS hlS, wr_S3 hXS hlS, wr_S4 hXS hlS, wr_S5 hXS hlS, wr_S6 hXS hlS, wr_S7 hXS hlS, wr_S8 hXS hlS, wr_S9 hXS hlS, wr_S10 hXS hlS, wr_S11 hXS hlS, wr_S12 hXS hlS, gO_L hXL, gR_L5 hXL, al_L1 hXL, rd_L1 hXL, gP_L hXL hlL, wr_L1 hXL hlL, gO_R hXR, gR_R3 hXR, gR_R4 hXR, al_R1 hXR, al_R2 hXR, rd_R1 hXR, rd_R2 hXR, gP_R hXR hlR, wr_R1 hXR hlR, wr_R2 hXR hlR, gO_C hXC, gR_C1 hXC, al_C1 hXC, rd_C1 hXC, gP_C hXC hlC, wr_C1 hXC hlC, Nat.add_assoc, Nat.reduceAdd, sB_0, sB_c, u3_sB0, u3_sB, u3_s, u3_n, Nat.reduceLT, y2, y12, hs, b2i_f, Jl0, Jl1, Jl2, Jl3, Jl4, Jl5, Jl6, Jl7, Jl8, Jl9, Jl10, Jl11, Jl12, Jl13, Jl14, Jl15, Jl16, Jl17, Jl18, Jl19, Jl20, Jl22, Jl24, Jl28, Jl30, Jl31, Jl32, Jl35, Jl36, Jl37, Jl38, Jl39, Jl40, Jl48, Jl57, Jl59, Jl60, Jl61, Jl63, Jl64, Jl68, Jl69, Jl96, Jl97, Jl98, Jl99, Jl100, Jl122, Jl149, Jl150, Jl165, Jl255, Jl511, Jl512, Jl600, Jl610, Jl940, Jl968, Jl999, Jl1134, Jl1152, Jl2048, Jl4608, Jl9999, Jl99999, Jl100000, Jl147456, Jl12345, Jl1103515245, Jl100000000, Jlm1, Jlm2, J_add, J_sub, J_mul, J_lt, J_le, J_eq, J_ite, J_cl, ri_j, wi_j, b2i_z, b2i_o, b2i_zo, Int.cast_ofNat_Int, Int.natCast_zero, Int.natCast_one, if_true, if_false, ite_self, Int.le_refl, J_bit, J_or, J_neg, J_oN, Int.reduceEq, Int.reduceLT, Int.reduceLE, Int.reduceNeg, Int.reduceAdd, Int.reduceSub, Int.reduceMul, Int.reduceToNat, J_shl, J_shr, V_ite, true_or, or_true, nz_j, J_div, J_rem, Option.bind_some, Option.toList_some, Option.toList_none, List.cons_append, List.nil_append, Jl21, Jl23, Jl25, Jl74, Jl83, Jl288, Jl324, Jl1800, Jlm8]
      repeat (first | rw [if_neg (by omega)] | rw [if_pos (by omega)])) (by omega) none
  rw [an_0, if_neg (by decide)] at LL
  refine LL.trans ?_
  rw [b76_38]
  unfold clN
  rw [← hZ1]
  have y2 : ∀ Y : Nat → Int → Int, (∀ a, a ≠ 0 → Y a = Z a) → Y 2 = Z 2 := fun Y h => h 2 (by decide)
  have yy : (if an (baS (rwk Z 2 13)) (Z 2 3) = true then ntZ Z1 5 n else Z1) 2 = Z 2 := by
    split
    · rw [ntZ_c (by decide), z1c 2 (by decide)]
    · exact z1c 2 (by decide)
  simp (disch := omega) only [b76_116, gO_k hXk, gP_k hXk hl, gR_k hX0, gR_k hX1, gR_k hX2, gR_k hX3, gR_k hX4, gR_k hX5, rdA_k hXn, wrA_k hXn hlNu, gO_k hXr.1, gO_S hXS, gR_S2 hXS, gR_S4 hXS, gR_S5 hXS, gR_S6 hXS, gR_S7 hXS, gR_S8 hXS, gR_S9 hXS, gR_S10 hXS, gR_S11 hXS, gR_S12 hXS, gR_S14 hXS, gR_S15 hXS, al_S1 hXS, al_S2 hXS, al_S3 hXS, al_S4 hXS, al_S5 hXS, al_S6 hXS, al_S7 hXS, al_S8 hXS, al_S9 hXS, al_S10 hXS, al_S11 hXS, al_S12 hXS, rd_S1 hXS, rd_S2 hXS, rd_S3 hXS, rd_S4 hXS, rd_S5 hXS, rd_S6 hXS, rd_S7 hXS, rd_S8 hXS, rd_S9 hXS, rd_S10 hXS, rd_S11 hXS, rd_S12 hXS, gP_S hXS hlS, wr_S1 hXS hlS, wr_S2 hXS hlS, wr_S3 hXS hlS, wr_S4 hXS hlS, wr_S5 hXS hlS, wr_S6 hXS hlS, wr_S7 hXS hlS, wr_S8 hXS hlS, wr_S9 hXS hlS, wr_S10 hXS hlS, wr_S11 hXS hlS, wr_S12 hXS hlS, gO_L hXL, gR_L5 hXL, al_L1 hXL, rd_L1 hXL, gP_L hXL hlL, wr_L1 hXL hlL, gO_R hXR, gR_R3 hXR, gR_R4 hXR, al_R1 hXR, al_R2 hXR, rd_R1 hXR, rd_R2 hXR, gP_R hXR hlR, wr_R1 hXR hlR, wr_R2 hXR hlR, gO_C hXC, gR_C1 hXC, al_C1 hXC, rd_C1 hXC, gP_C hXC hlC, wr_C1 hXC hlC, Nat.add_assoc, Nat.reduceAdd, sB_0, sB_c, u3_sB0, u3_sB, u3_s, u3_n, Nat.reduceLT, yy, Jl0, Jl1, Jl2, Jl3, Jl4, Jl5, Jl6, Jl7, Jl8, Jl9, Jl10, Jl11, Jl12, Jl13, Jl14, Jl15, Jl16, Jl17, Jl18, Jl19, Jl20, Jl22, Jl24, Jl28, Jl30, Jl31, Jl32, Jl35, Jl36, Jl37, Jl38, Jl39, Jl40, Jl48, Jl57, Jl59, Jl60, Jl61, Jl63, Jl64, Jl68, Jl69, Jl96, Jl97, Jl98, Jl99, Jl100, Jl122, Jl149, Jl150, Jl165, Jl255, Jl511, Jl512, Jl600, Jl610, Jl940, Jl968, Jl999, Jl1134, Jl1152, Jl2048, Jl4608, Jl9999, Jl99999, Jl100000, Jl147456, Jl12345, Jl1103515245, Jl100000000, Jlm1, Jlm2, J_add, J_sub, J_mul, J_lt, J_le, J_eq, J_ite, J_cl, ri_j, wi_j, b2i_z, b2i_o, b2i_zo, Int.cast_ofNat_Int, Int.natCast_zero, Int.natCast_one, if_true, if_false, ite_self, Int.le_refl, J_bit, J_or, J_neg, J_oN, Int.reduceEq, Int.reduceLT, Int.reduceLE, Int.reduceNeg, Int.reduceAdd, Int.reduceSub, Int.reduceMul, Int.reduceToNat, J_shl, J_shr, V_ite, true_or, or_true, nz_j, J_div, J_rem, Option.bind_some, Option.toList_some, Option.toList_none, List.cons_append, List.nil_append, Jl21, Jl23, Jl25, Jl74, Jl83, Jl288, Jl324, Jl1800, Jlm8]
theorem clN_q (hI : StI (dZ 0 Z)) : (clN Z n 0 6, clN Z n 0 7) = (if Z 0 6 = 0 ∧ clQ (dZ 0 Z) ≠ 0 then (clQ (dZ 0 Z), n) else (Z 0 6, Z 0 7)) ∧ dZ 0 (clN Z n) = dZ 0 Z ∧ (i32 (Z 0 6) → i32 (clN Z n 0 6)) := by
  obtain ⟨i1, _, i3, i4, _, i6, i7⟩ := hI
  have i1' : 1 ≤ Z 2 0 ∧ Z 2 0 ≤ 8 ∧ 0 ≤ Z 2 1 ∧ Z 2 1 < 256 ∧ 0 ≤ Z 2 3 ∧ Z 2 3 ≤ 9 ∧ 0 ≤ Z 2 13 ∧ Z 2 13 ≤ 8 := i1
  have i4' : ∀ k, 0 ≤ k → k < 9 → (-1 ≤ Z 12 k ∧ Z 12 k ≤ 8) ∧ (Z 12 k ≠ -1 → p2 (Z 12 k) ≤ Z 0 9) := fun k a e => (i4 k a e).2
  have ec : clQ (dZ 0 Z) = if Z 0 8 < p2 (Z 2 0) ∧ Z 0 9 < p2 (Z 2 3) then (if al (okS (rwk Z 2 13)) (Z 2 3) = true then 0 else 5) else 4 := rfl
  have hF : NuF Z (clN Z n) := by
    unfold clN
    split
    · split
      · exact NuF_nt
      · exact NuF_t NuF_nt NuF_nt
    · split
      · exact NuF_r
      · exact NuF_nt
  have hq : (clN Z n 0 6, clN Z n 0 7) = (if Z 0 6 = 0 ∧ clQ (dZ 0 Z) ≠ 0 then (clQ (dZ 0 Z), n) else (Z 0 6, Z 0 7)) := by
    rw [ec]
    by_cases cA : Z 0 8 < p2 (Z 2 0) ∧ Z 0 9 < p2 (Z 2 3)
    · rw [if_pos cA]
      have hab : al (okS (rwk Z 2 13)) (Z 2 3) = !an (baS (rwk Z 2 13)) (Z 2 3) := by
        have pk : ∀ k, 0 ≤ k → k < Z 2 3 → okS (rwk Z 2 13) k = !baS (rwk Z 2 13) k := fun k a e => by
          have ik := i4' k a (by omega)
          show decide (Z 12 k = -1 ∨ (Z 4 (Z 12 k) = 3 ∧ Z 5 (Z 12 k) = Z 5 k)) = !decide ((0 ≤ Z 12 k ∧ Z 12 k < Z 2 3) ∧ ¬ (Z 5 (Z 12 k) = Z 5 k ∧ Z 4 (Z 12 k) = 3))
          by_cases qm : Z 12 k = -1
          · rw [decide_eq_true (Or.inl qm), decide_eq_false (fun z => by omega)]
            rfl
          · have lt := (p2_lt_iff (a := Z 12 k) (h := Z 2 3) (by omega) (by omega)).mp (by have := ik.2 qm; omega)
            by_cases qq : Z 4 (Z 12 k) = 3 ∧ Z 5 (Z 12 k) = Z 5 k
            · rw [decide_eq_true (Or.inr qq), decide_eq_false (fun z => z.2 ⟨qq.2, qq.1⟩)]
              rfl
            · rw [decide_eq_false (fun z => by rcases z with z | z; exact qm z; exact qq z), decide_eq_true ⟨⟨by omega, lt⟩, fun z => qq ⟨z.2, z.1⟩⟩]
              rfl
        cases ha : an (baS (rwk Z 2 13)) (Z 2 3) with
        | true =>
          obtain ⟨k, k1, k2, k3⟩ := (an_iff _ (by omega)).mp ha
          apply Bool.eq_false_iff.mpr
          intro hal
          have := (al_iff _ (by omega)).mp hal k k1 k2
          rw [pk k k1 k2, k3] at this
          exact absurd this (by decide)
        | false =>
          apply (al_iff _ (by omega)).mpr
          intro k k1 k2
          rw [pk k k1 k2]
          cases hb : baS (rwk Z 2 13) k with
          | false => rfl
          | true =>
            have := (an_iff (baS (rwk Z 2 13)) (n := Z 2 3) (by omega)).mpr ⟨k, k1, k2, hb⟩
            rw [ha] at this
            exact absurd this (by decide)
      unfold clN
      rw [if_pos cA, hab]
      cases ha : an (baS (rwk Z 2 13)) (Z 2 3) with
      | true =>
        rw [if_pos rfl, ntZ_q]
        by_cases q : Z 0 6 = 0
        · rw [if_pos q, if_pos ⟨q, by decide⟩]
          rfl
        · rw [if_neg q, if_neg (fun z => q z.1)]
      | false =>
        rw [if_neg (by decide), if_neg (by simp)]
    · rw [if_neg cA]
      have e4 : clN Z n = ntZ Z 4 n := by
        unfold clN
        rw [if_neg cA]
        split
        · exact ntZ_nt (by decide)
        · rfl
      rw [e4, ntZ_q]
      by_cases q : Z 0 6 = 0
      · rw [if_pos q, if_pos ⟨q, by decide⟩]
      · rw [if_neg q, if_neg (fun z => q z.1)]
  refine ⟨hq, NuF_d hF, fun h6 => ?_⟩
  have e := congrArg Prod.fst hq
  dsimp only at e
  rw [e]
  have := clQ_v (d := dZ 0 Z)
  split
  · unfold i32; dsimp only; omega
  · exact h6
/-- all lines -/
theorem take_lp (hd : 10 ≤ d) (hX : ShX μ c b) (hl : lo ≤ c) (hb : b < c) (hB : TpB I b B) (hn : n ≤ 600) (hSt : Sta E lo μ I) (hs : 0 ≤ s ∧ s < 4) : ∀ (k : Nat) (i : Int) (Z : Nat → Int → Int) (w : Int), RX B n (Z 22) w → i32 (Z 0 6) → DI s (dZ s Z) → n - w < k → 0 ≤ i → i ≤ w → ∃ Z' i', (0 ≤ i' ∧ i' ≤ 601) ∧ dZ s Z' = (txF s B n k w (Z 0 6, Z 0 7) (dZ s Z)).2 ∧ ((i32 (Z' 0 6) ∧ (Z' 0 6, Z' 0 7) = (txF s B n k w (Z 0 6, Z 0 7) (dZ s Z)).1 ∧ ex PG E lo d 63 17 [some (.ref c), some (.int (J (s))), some (.int (J (n))), some (.int (J (1))), some (.int (J (i)))] [] (mj μ (sB I c 23 Z)) = ex PG E lo d 63 51 [some (.ref c), some (.int (J (s))), some (.int (J (n))), some (.int (J (1))), some (.int (J (i')))] [] (mj μ (sB I c 23 Z'))) ∨ ((txF s B n k w (Z 0 6, Z 0 7) (dZ s Z)).1 = (1, Z' 22 4) ∧ ex PG E lo d 63 17 [some (.ref c), some (.int (J (s))), some (.int (J (n))), some (.int (J (1))), some (.int (J (i)))] [] (mj μ (sB I c 23 Z)) = ex PG E lo d 63 51 [some (.ref c), some (.int (J (s))), some (.int (J (n))), some (.int (J (0))), some (.int (J (i')))] [] (mj μ (sB I c 23 Z')))) := by
  obtain ⟨⟨hXk, hX0, hX1, hX2, hX3, hX4, hX5⟩, hXn, hXS, hXL, hXR, hXC, hXr⟩ := id hX
  have hlNu : lo ≤ c + 1 := by omega
  have hlS : lo ≤ c + 2 := by omega
  have hlL : lo ≤ c + 15 := by omega
  have hlR : lo ≤ c + 17 := by omega
  have hlC : lo ≤ c + 20 := by omega
  intro k
  induction k with
  | zero =>
    intro i Z w hR h6 hD hk hi hiw
    have := hR.2.2
    omega
  | succ k ih =>
    intro i Z w hR h6 hD hk hi hiw
    have wb := hR.2.2
    have r3 : Z 22 3 = tK B n w := hR.1.2.2.1
    obtain ⟨K1, K2, K3, K4, K5⟩ := tK_T B n w
    have kb : -1 ≤ tK B n w ∧ tK B n w ≤ 4 := by
      unfold tK
      repeat' (first | omega | split)
    unfold txF
    by_cases c0 : tT B n w = 0
    · rw [if_pos c0]
      have k0 : tK B n w = 0 := K1.mpr c0
      refine ⟨Z, i, by omega, rfl, Or.inl ⟨h6, rfl, ?_⟩⟩
      rw [b63_17]
      simp (disch := omega) only [b63_25, b63_29, gO_k hXk, gP_k hXk hl, gR_k hX0, gR_k hX1, gR_k hX2, gR_k hX3, gR_k hX4, gR_k hX5, rdA_k hXn, wrA_k hXn hlNu, gO_k hXr.1, gO_S hXS, gR_S2 hXS, gR_S4 hXS, gR_S5 hXS, gR_S6 hXS, gR_S7 hXS, gR_S8 hXS, gR_S9 hXS, gR_S10 hXS, gR_S11 hXS, gR_S12 hXS, gR_S14 hXS, gR_S15 hXS, al_S1 hXS, al_S2 hXS, al_S3 hXS, al_S4 hXS, al_S5 hXS, al_S6 hXS, al_S7 hXS, al_S8 hXS, al_S9 hXS, al_S10 hXS, al_S11 hXS, al_S12 hXS, rd_S1 hXS, rd_S2 hXS, rd_S3 hXS, rd_S4 hXS, rd_S5 hXS, rd_S6 hXS, rd_S7 hXS, rd_S8 hXS, rd_S9 hXS, rd_S10 hXS, rd_S11 hXS, rd_S12 hXS, gP_S hXS hlS, wr_S1 hXS hlS, wr_S2 hXS hlS, wr_S3 hXS hlS, wr_S4 hXS hlS, wr_S5 hXS hlS, wr_S6 hXS hlS, wr_S7 hXS hlS, wr_S8 hXS hlS, wr_S9 hXS hlS, wr_S10 hXS hlS, wr_S11 hXS hlS, wr_S12 hXS hlS, gO_L hXL, gR_L5 hXL, al_L1 hXL, rd_L1 hXL, gP_L hXL hlL, wr_L1 hXL hlL, gO_R hXR, gR_R3 hXR, gR_R4 hXR, al_R1 hXR, al_R2 hXR, rd_R1 hXR, rd_R2 hXR, gP_R hXR hlR, wr_R1 hXR hlR, wr_R2 hXR hlR, gO_C hXC, gR_C1 hXC, al_C1 hXC, rd_C1 hXC, gP_C hXC hlC, wr_C1 hXC hlC, Nat.add_assoc, Nat.reduceAdd, sB_0, sB_c, u3_sB0, u3_sB, u3_s, u3_n, Nat.reduceLT, r3, k0, Jl0, Jl1, Jl2, Jl3, Jl4, Jl5, Jl6, Jl7, Jl8, Jl9, Jl10, Jl11, Jl12, Jl13, Jl14, Jl15, Jl16, Jl17, Jl18, Jl19, Jl20, Jl22, Jl24, Jl28, Jl30, Jl31, Jl32, Jl35, Jl36, Jl37, Jl38, Jl39, Jl40, Jl48, Jl57, Jl59, Jl60, Jl61, Jl63, Jl64, Jl68, Jl69, Jl96, Jl97, Jl98, Jl99, Jl100, Jl122, Jl149, Jl150, Jl165, Jl255, Jl511, Jl512, Jl600, Jl610, Jl940, Jl968, Jl999, Jl1134, Jl1152, Jl2048, Jl4608, Jl9999, Jl99999, Jl100000, Jl147456, Jl12345, Jl1103515245, Jl100000000, Jlm1, Jlm2, J_add, J_sub, J_mul, J_lt, J_le, J_eq, J_ite, J_cl, ri_j, wi_j, b2i_z, b2i_o, b2i_zo, Int.cast_ofNat_Int, Int.natCast_zero, Int.natCast_one, if_true, if_false, ite_self, Int.le_refl, J_bit, J_or, J_neg, J_oN, Int.reduceEq, Int.reduceLT, Int.reduceLE, Int.reduceNeg, Int.reduceAdd, Int.reduceSub, Int.reduceMul, Int.reduceToNat, J_shl, J_shr, V_ite, true_or, or_true, nz_j, J_div, J_rem, Option.bind_some, Option.toList_some, Option.toList_none, List.cons_append, List.nil_append, Jl21, Jl23, Jl25, Jl74, Jl83, Jl288, Jl324, Jl1800, Jlm8]
      repeat (first | rw [if_neg (by omega)] | rw [if_pos (by omega)])
    · rw [if_neg c0]
      have k0 : ¬ tK B n w = 0 := fun z => c0 (K1.mp z)
      have wn0 := tT_n c0
      obtain ⟨T1, T2⟩ := tkl_sp (E := E) (lo := lo) (d := d) (I := I) (Z := Z) (s := s) (by omega) hX hl hb hB hn hSt hs hR h6 hD c0
      by_cases cg : tT B n w = 3 ∧ fiL s + 1 ≤ wdC B w (tE B n w) ∧ wdC B w (tE B n w) ≤ laL s + 1
      · rw [if_pos cg]
        obtain ⟨U1, U2⟩ := T2 cg
        cases hT : lnW B n (nOf (wdC B w (tE B n w) - 1)) (nx B n w) with
        | some p =>
          obtain ⟨Z', a1, a2, a3⟩ := U1 p hT
          refine ⟨Z', i + 1, by omega, a3, Or.inr ⟨?_, ?_⟩⟩
          · show ((1 : Int), p) = (1, Z' 22 4)
            rw [a2]
          · rw [b63_17]
            simp (disch := omega) only [b63_25, b63_29, b63_39, b63_44, gO_k hXk, gP_k hXk hl, gR_k hX0, gR_k hX1, gR_k hX2, gR_k hX3, gR_k hX4, gR_k hX5, rdA_k hXn, wrA_k hXn hlNu, gO_k hXr.1, gO_S hXS, gR_S2 hXS, gR_S4 hXS, gR_S5 hXS, gR_S6 hXS, gR_S7 hXS, gR_S8 hXS, gR_S9 hXS, gR_S10 hXS, gR_S11 hXS, gR_S12 hXS, gR_S14 hXS, gR_S15 hXS, al_S1 hXS, al_S2 hXS, al_S3 hXS, al_S4 hXS, al_S5 hXS, al_S6 hXS, al_S7 hXS, al_S8 hXS, al_S9 hXS, al_S10 hXS, al_S11 hXS, al_S12 hXS, rd_S1 hXS, rd_S2 hXS, rd_S3 hXS, rd_S4 hXS, rd_S5 hXS, rd_S6 hXS, rd_S7 hXS, rd_S8 hXS, rd_S9 hXS, rd_S10 hXS, rd_S11 hXS, rd_S12 hXS, gP_S hXS hlS, wr_S1 hXS hlS, wr_S2 hXS hlS, wr_S3 hXS hlS, wr_S4 hXS hlS, wr_S5 hXS hlS, wr_S6 hXS hlS, wr_S7 hXS hlS, wr_S8 hXS hlS, wr_S9 hXS hlS, wr_S10 hXS hlS, wr_S11 hXS hlS, wr_S12 hXS hlS, gO_L hXL, gR_L5 hXL, al_L1 hXL, rd_L1 hXL, gP_L hXL hlL, wr_L1 hXL hlL, gO_R hXR, gR_R3 hXR, gR_R4 hXR, al_R1 hXR, al_R2 hXR, rd_R1 hXR, rd_R2 hXR, gP_R hXR hlR, wr_R1 hXR hlR, wr_R2 hXR hlR, gO_C hXC, gR_C1 hXC, al_C1 hXC, rd_C1 hXC, gP_C hXC hlC, wr_C1 hXC hlC, Nat.add_assoc, Nat.reduceAdd, sB_0, sB_c, u3_sB0, u3_sB, u3_s, u3_n, Nat.reduceLT, r3, a1, Jl0, Jl1, Jl2, Jl3, Jl4, Jl5, Jl6, Jl7, Jl8, Jl9, Jl10, Jl11, Jl12, Jl13, Jl14, Jl15, Jl16, Jl17, Jl18, Jl19, Jl20, Jl22, Jl24, Jl28, Jl30, Jl31, Jl32, Jl35, Jl36, Jl37, Jl38, Jl39, Jl40, Jl48, Jl57, Jl59, Jl60, Jl61, Jl63, Jl64, Jl68, Jl69, Jl96, Jl97, Jl98, Jl99, Jl100, Jl122, Jl149, Jl150, Jl165, Jl255, Jl511, Jl512, Jl600, Jl610, Jl940, Jl968, Jl999, Jl1134, Jl1152, Jl2048, Jl4608, Jl9999, Jl99999, Jl100000, Jl147456, Jl12345, Jl1103515245, Jl100000000, Jlm1, Jlm2, J_add, J_sub, J_mul, J_lt, J_le, J_eq, J_ite, J_cl, ri_j, wi_j, b2i_z, b2i_o, b2i_zo, Int.cast_ofNat_Int, Int.natCast_zero, Int.natCast_one, if_true, if_false, ite_self, Int.le_refl, J_bit, J_or, J_neg, J_oN, Int.reduceEq, Int.reduceLT, Int.reduceLE, Int.reduceNeg, Int.reduceAdd, Int.reduceSub, Int.reduceMul, Int.reduceToNat, J_shl, J_shr, V_ite, true_or, or_true, nz_j, J_div, J_rem, Option.bind_some, Option.toList_some, Option.toList_none, List.cons_append, List.nil_append, Jl21, Jl23, Jl25, Jl74, Jl83, Jl288, Jl324, Jl1800, Jlm8]
            repeat (first | rw [if_neg (by omega)] | rw [if_pos (by omega)])
            rw [b63_17]
            simp (disch := omega) only [b63_25, Jl0, Jl1, Jl2, Jl3, Jl4, Jl5, Jl6, Jl7, Jl8, Jl9, Jl10, Jl11, Jl12, Jl13, Jl14, Jl15, Jl16, Jl17, Jl18, Jl19, Jl20, Jl22, Jl24, Jl28, Jl30, Jl31, Jl32, Jl35, Jl36, Jl37, Jl38, Jl39, Jl40, Jl48, Jl57, Jl59, Jl60, Jl61, Jl63, Jl64, Jl68, Jl69, Jl96, Jl97, Jl98, Jl99, Jl100, Jl122, Jl149, Jl150, Jl165, Jl255, Jl511, Jl512, Jl600, Jl610, Jl940, Jl968, Jl999, Jl1134, Jl1152, Jl2048, Jl4608, Jl9999, Jl99999, Jl100000, Jl147456, Jl12345, Jl1103515245, Jl100000000, Jlm1, Jlm2, J_add, J_sub, J_mul, J_lt, J_le, J_eq, J_ite, J_cl, ri_j, wi_j, b2i_z, b2i_o, b2i_zo, Int.cast_ofNat_Int, Int.natCast_zero, Int.natCast_one, if_true, if_false, ite_self, Int.le_refl, J_bit, J_or, J_neg, J_oN, Int.reduceEq, Int.reduceLT, Int.reduceLE, Int.reduceNeg, Int.reduceAdd, Int.reduceSub, Int.reduceMul, Int.reduceToNat, J_shl, J_shr, V_ite, true_or, or_true, nz_j, J_div, J_rem, Option.bind_some, Option.toList_some, Option.toList_none, List.cons_append, List.nil_append, Jl21, Jl23, Jl25, Jl74, Jl83, Jl288, Jl324, Jl1800, Jlm8]
        | none =>
          obtain ⟨Z', a1, a2, a3, a4, a5⟩ := U2 hT
          have x1 := nx_n (B := B) wb
          have x2 := x1.2.2 wn0
          have x3 := enW_n (B := B) (n := n) (nOf (wdC B w (tE B n w) - 1)) (nx B n w) (by omega)
          have hDI : DI s (dZ s Z') := by
            rw [a5]
            split
            · rename_i z
              obtain ⟨z1, z2, z3⟩ := lnQ_ok z
              exact tlD_I hs (by omega) hD z2 z3
            · exact hD
          obtain ⟨Z2, i2, b1, b3, b4⟩ := ih (i + 1) Z' _ a2 a4 hDI (by omega) (by omega) (by omega)
          have s1 : ex PG E lo d 63 17 [some (.ref c), some (.int (J (s))), some (.int (J (n))), some (.int (J (1))), some (.int (J (i)))] [] (mj μ (sB I c 23 Z)) = ex PG E lo d 63 17 [some (.ref c), some (.int (J (s))), some (.int (J (n))), some (.int (J (1))), some (.int (J ((i + 1))))] [] (mj μ (sB I c 23 Z')) := by
            rw [b63_17]
            simp (disch := omega) only [b63_25, b63_29, b63_39, b63_44, gO_k hXk, gP_k hXk hl, gR_k hX0, gR_k hX1, gR_k hX2, gR_k hX3, gR_k hX4, gR_k hX5, rdA_k hXn, wrA_k hXn hlNu, gO_k hXr.1, gO_S hXS, gR_S2 hXS, gR_S4 hXS, gR_S5 hXS, gR_S6 hXS, gR_S7 hXS, gR_S8 hXS, gR_S9 hXS, gR_S10 hXS, gR_S11 hXS, gR_S12 hXS, gR_S14 hXS, gR_S15 hXS, al_S1 hXS, al_S2 hXS, al_S3 hXS, al_S4 hXS, al_S5 hXS, al_S6 hXS, al_S7 hXS, al_S8 hXS, al_S9 hXS, al_S10 hXS, al_S11 hXS, al_S12 hXS, rd_S1 hXS, rd_S2 hXS, rd_S3 hXS, rd_S4 hXS, rd_S5 hXS, rd_S6 hXS, rd_S7 hXS, rd_S8 hXS, rd_S9 hXS, rd_S10 hXS, rd_S11 hXS, rd_S12 hXS, gP_S hXS hlS, wr_S1 hXS hlS, wr_S2 hXS hlS, wr_S3 hXS hlS, wr_S4 hXS hlS, wr_S5 hXS hlS, wr_S6 hXS hlS, wr_S7 hXS hlS, wr_S8 hXS hlS, wr_S9 hXS hlS, wr_S10 hXS hlS, wr_S11 hXS hlS, wr_S12 hXS hlS, gO_L hXL, gR_L5 hXL, al_L1 hXL, rd_L1 hXL, gP_L hXL hlL, wr_L1 hXL hlL, gO_R hXR, gR_R3 hXR, gR_R4 hXR, al_R1 hXR, al_R2 hXR, rd_R1 hXR, rd_R2 hXR, gP_R hXR hlR, wr_R1 hXR hlR, wr_R2 hXR hlR, gO_C hXC, gR_C1 hXC, al_C1 hXC, rd_C1 hXC, gP_C hXC hlC, wr_C1 hXC hlC, Nat.add_assoc, Nat.reduceAdd, sB_0, sB_c, u3_sB0, u3_sB, u3_s, u3_n, Nat.reduceLT, r3, a1, Jl0, Jl1, Jl2, Jl3, Jl4, Jl5, Jl6, Jl7, Jl8, Jl9, Jl10, Jl11, Jl12, Jl13, Jl14, Jl15, Jl16, Jl17, Jl18, Jl19, Jl20, Jl22, Jl24, Jl28, Jl30, Jl31, Jl32, Jl35, Jl36, Jl37, Jl38, Jl39, Jl40, Jl48, Jl57, Jl59, Jl60, Jl61, Jl63, Jl64, Jl68, Jl69, Jl96, Jl97, Jl98, Jl99, Jl100, Jl122, Jl149, Jl150, Jl165, Jl255, Jl511, Jl512, Jl600, Jl610, Jl940, Jl968, Jl999, Jl1134, Jl1152, Jl2048, Jl4608, Jl9999, Jl99999, Jl100000, Jl147456, Jl12345, Jl1103515245, Jl100000000, Jlm1, Jlm2, J_add, J_sub, J_mul, J_lt, J_le, J_eq, J_ite, J_cl, ri_j, wi_j, b2i_z, b2i_o, b2i_zo, Int.cast_ofNat_Int, Int.natCast_zero, Int.natCast_one, if_true, if_false, ite_self, Int.le_refl, J_bit, J_or, J_neg, J_oN, Int.reduceEq, Int.reduceLT, Int.reduceLE, Int.reduceNeg, Int.reduceAdd, Int.reduceSub, Int.reduceMul, Int.reduceToNat, J_shl, J_shr, V_ite, true_or, or_true, nz_j, J_div, J_rem, Option.bind_some, Option.toList_some, Option.toList_none, List.cons_append, List.nil_append, Jl21, Jl23, Jl25, Jl74, Jl83, Jl288, Jl324, Jl1800, Jlm8]
            repeat (first | rw [if_neg (by omega)] | rw [if_pos (by omega)])
          rw [a3, a5] at b3 b4
          refine ⟨Z2, i2, b1, b3, ?_⟩
          rcases b4 with ⟨e0, e1, e2⟩ | ⟨e1, e2⟩
          · exact Or.inl ⟨e0, e1, s1.trans e2⟩
          · exact Or.inr ⟨e1, s1.trans e2⟩
      · rw [if_neg cg]
        have a1 := T1 cg
        refine ⟨Z, i + 1, by omega, rfl, Or.inr ⟨by rw [hR.1.2.2.2], ?_⟩⟩
        rw [b63_17]
        simp (disch := omega) only [b63_25, b63_29, b63_39, b63_44, gO_k hXk, gP_k hXk hl, gR_k hX0, gR_k hX1, gR_k hX2, gR_k hX3, gR_k hX4, gR_k hX5, rdA_k hXn, wrA_k hXn hlNu, gO_k hXr.1, gO_S hXS, gR_S2 hXS, gR_S4 hXS, gR_S5 hXS, gR_S6 hXS, gR_S7 hXS, gR_S8 hXS, gR_S9 hXS, gR_S10 hXS, gR_S11 hXS, gR_S12 hXS, gR_S14 hXS, gR_S15 hXS, al_S1 hXS, al_S2 hXS, al_S3 hXS, al_S4 hXS, al_S5 hXS, al_S6 hXS, al_S7 hXS, al_S8 hXS, al_S9 hXS, al_S10 hXS, al_S11 hXS, al_S12 hXS, rd_S1 hXS, rd_S2 hXS, rd_S3 hXS, rd_S4 hXS, rd_S5 hXS, rd_S6 hXS, rd_S7 hXS, rd_S8 hXS, rd_S9 hXS, rd_S10 hXS, rd_S11 hXS, rd_S12 hXS, gP_S hXS hlS, wr_S1 hXS hlS, wr_S2 hXS hlS, wr_S3 hXS hlS, wr_S4 hXS hlS, wr_S5 hXS hlS, wr_S6 hXS hlS, wr_S7 hXS hlS, wr_S8 hXS hlS, wr_S9 hXS hlS, wr_S10 hXS hlS, wr_S11 hXS hlS, wr_S12 hXS hlS, gO_L hXL, gR_L5 hXL, al_L1 hXL, rd_L1 hXL, gP_L hXL hlL, wr_L1 hXL hlL, gO_R hXR, gR_R3 hXR, gR_R4 hXR, al_R1 hXR, al_R2 hXR, rd_R1 hXR, rd_R2 hXR, gP_R hXR hlR, wr_R1 hXR hlR, wr_R2 hXR hlR, gO_C hXC, gR_C1 hXC, al_C1 hXC, rd_C1 hXC, gP_C hXC hlC, wr_C1 hXC hlC, Nat.add_assoc, Nat.reduceAdd, sB_0, sB_c, u3_sB0, u3_sB, u3_s, u3_n, Nat.reduceLT, r3, a1, Jl0, Jl1, Jl2, Jl3, Jl4, Jl5, Jl6, Jl7, Jl8, Jl9, Jl10, Jl11, Jl12, Jl13, Jl14, Jl15, Jl16, Jl17, Jl18, Jl19, Jl20, Jl22, Jl24, Jl28, Jl30, Jl31, Jl32, Jl35, Jl36, Jl37, Jl38, Jl39, Jl40, Jl48, Jl57, Jl59, Jl60, Jl61, Jl63, Jl64, Jl68, Jl69, Jl96, Jl97, Jl98, Jl99, Jl100, Jl122, Jl149, Jl150, Jl165, Jl255, Jl511, Jl512, Jl600, Jl610, Jl940, Jl968, Jl999, Jl1134, Jl1152, Jl2048, Jl4608, Jl9999, Jl99999, Jl100000, Jl147456, Jl12345, Jl1103515245, Jl100000000, Jlm1, Jlm2, J_add, J_sub, J_mul, J_lt, J_le, J_eq, J_ite, J_cl, ri_j, wi_j, b2i_z, b2i_o, b2i_zo, Int.cast_ofNat_Int, Int.natCast_zero, Int.natCast_one, if_true, if_false, ite_self, Int.le_refl, J_bit, J_or, J_neg, J_oN, Int.reduceEq, Int.reduceLT, Int.reduceLE, Int.reduceNeg, Int.reduceAdd, Int.reduceSub, Int.reduceMul, Int.reduceToNat, J_shl, J_shr, V_ite, true_or, or_true, nz_j, J_div, J_rem, Option.bind_some, Option.toList_some, Option.toList_none, List.cons_append, List.nil_append, Jl21, Jl23, Jl25, Jl74, Jl83, Jl288, Jl324, Jl1800, Jlm8]
        repeat (first | rw [if_neg (by omega)] | rw [if_pos (by omega)])
        rw [b63_17]
        simp (disch := omega) only [b63_25, Jl0, Jl1, Jl2, Jl3, Jl4, Jl5, Jl6, Jl7, Jl8, Jl9, Jl10, Jl11, Jl12, Jl13, Jl14, Jl15, Jl16, Jl17, Jl18, Jl19, Jl20, Jl22, Jl24, Jl28, Jl30, Jl31, Jl32, Jl35, Jl36, Jl37, Jl38, Jl39, Jl40, Jl48, Jl57, Jl59, Jl60, Jl61, Jl63, Jl64, Jl68, Jl69, Jl96, Jl97, Jl98, Jl99, Jl100, Jl122, Jl149, Jl150, Jl165, Jl255, Jl511, Jl512, Jl600, Jl610, Jl940, Jl968, Jl999, Jl1134, Jl1152, Jl2048, Jl4608, Jl9999, Jl99999, Jl100000, Jl147456, Jl12345, Jl1103515245, Jl100000000, Jlm1, Jlm2, J_add, J_sub, J_mul, J_lt, J_le, J_eq, J_ite, J_cl, ri_j, wi_j, b2i_z, b2i_o, b2i_zo, Int.cast_ofNat_Int, Int.natCast_zero, Int.natCast_one, if_true, if_false, ite_self, Int.le_refl, J_bit, J_or, J_neg, J_oN, Int.reduceEq, Int.reduceLT, Int.reduceLE, Int.reduceNeg, Int.reduceAdd, Int.reduceSub, Int.reduceMul, Int.reduceToNat, J_shl, J_shr, V_ite, true_or, or_true, nz_j, J_div, J_rem, Option.bind_some, Option.toList_some, Option.toList_none, List.cons_append, List.nil_append, Jl21, Jl23, Jl25, Jl74, Jl83, Jl288, Jl324, Jl1800, Jlm8]
end CLOSE
