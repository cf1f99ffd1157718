/-! NIGHTS of the class: lying down, dues -/
theorem snS_s {S T : Nat → Int → Int} {k u : Int} (h : S 5 k ≤ u) : snS S T k (u + 1) = if wkS S T k u = true then u else snS S T k u := by
  unfold snS
  rw [show u + 1 - S 5 k = (u - S 5 k) + 1 by omega, fo_s _ _ (by omega)]
  rw [show S 5 k + (u - S 5 k) = u by omega]
theorem snS_0 {S T : Nat → Int → Int} {k : Int} : snS S T k (S 5 k) = S 5 k := by
  unfold snS
  rw [show S 5 k - S 5 k = 0 by omega]
  rfl
theorem snS_b {S T : Nat → Int → Int} {k u : Int} (h : S 5 k ≤ u) : S 5 k ≤ snS S T k u ∧ snS S T k u ≤ u := by
  unfold snS
  have := fo_ind (fun m x => S 5 k ≤ x ∧ x ≤ S 5 k + m) (fun j x => if wkS S T k (S 5 k + j) = true then S 5 k + j else x) (S 5 k) (n := u - S 5 k) (by omega) (by omega) (fun i x h1 h2 h3 => by split <;> omega)
  omega
/-- lain down ahead of u -/
def ldX (S T : Nat → Int → Int) (D : Int → Int) (k u : Int) : Int → Int := fun j => if k * 36 + S 5 k ≤ j ∧ j < k * 36 + u then dsS S k (j - k * 36) (snS S T k (j - k * 36 + 1)) else flr D (k * 36) ((k + 1) * 36) (-1) j
theorem ldX_u {S T : Nat → Int → Int} {D : Int → Int} {k u : Int} (h : S 5 k ≤ u) : u1 (ldX S T D k u) (k * 36 + u) (dsS S k u (snS S T k (u + 1))) = ldX S T D k (u + 1) := by
  funext j
  unfold u1 ldX
  by_cases hj : j = k * 36 + u
  · subst hj
    rw [if_pos rfl, if_pos (by omega), show k * 36 + u - k * 36 = u by omega]
  · rw [if_neg hj]
    by_cases h5 : k * 36 + S 5 k ≤ j ∧ j < k * 36 + u
    · rw [if_pos h5, if_pos (by omega)]
    · rw [if_neg h5, if_neg (by omega)]
/-- lain down: his row -/
def ldR (S T : Nat → Int → Int) (k : Int) (D : Int → Int) : Int → Int := fun j => if k * 36 ≤ j ∧ j < k * 36 + 36 then dpS S T k (j - k * 36) else D j
theorem dpS_b {S T : Nat → Int → Int} (hV : SV S) {k u : Int} (hk : 0 ≤ k ∧ k < S 0 3) (hu : 0 ≤ u ∧ u < 36) : -1 ≤ dpS S T k u ∧ dpS S T k u ≤ 100 := by
  unfold dpS
  have h1 := hV.2.2.1 k hk.1 hk.2
  split
  · rename_i h
    unfold asS at h
    rw [decide_eq_true_eq] at h
    have h2 := snS_b (S := S) (T := T) (k := k) (u := u + 1) (by omega)
    have h3 := dsS_b hV hk (u := u) (w := snS S T k (u + 1)) (by omega) (by omega)
    omega
  · omega
theorem ldR_DV {S T : Nat → Int → Int} (hV : SV S) {k : Int} (hk : 0 ≤ k ∧ k < S 0 3) {D : Int → Int} (hD : DV D) : DV (ldR S T k D) := by
  intro j h1 h2
  unfold ldR
  split
  · exact dpS_b hV hk (by omega)
  · exact hD j h1 h2
section NIGHT
variable {E : (Nat → Value) × (Nat → Nat)} {lo d n s l t : Nat} {μ : rM} {I S L T : Nat → Int → Int} {k u x y h w r : Int} {p : Bool} {f : Int → Int}
theorem ld_sp (hd : 4 ≤ d) (hC : NC μ I n s l t S L T) (hl : lo ≤ n) (hk : 0 ≤ k ∧ k < S 0 3) : cl E lo d 12 [.ref n, .int (J (k))] (mj μ I) = some (none, mj μ (sA I (n + 14) (ldR S T k (I (n + 14))))) := by
  obtain ⟨d, rfl⟩ : ∃ e, d = e + 1 := ⟨d - 1, by omega⟩
  have hV := hC.2.2.2.2.2.1
  have hD0 := hC.2.2.2.2.2.2.2.2.2.2.2.1
  have v1 := hV.1
  have v2 := hV.2.2.1 k hk.1 hk.2
  have v3 := upS_b hV hk
  have v4 := upS_r hV hk
  have hX : ∀ u, S 5 k ≤ u → u ≤ upS S k → DV (ldX S T (I (n + 14)) k u) := by
    intro u q1 q2 j q3 q4
    unfold ldX
    split
    · have h2 := snS_b (S := S) (T := T) (k := k) (u := j - k * 36 + 1) (by omega)
      have h3 := dsS_b hV hk (u := j - k * 36) (w := snS S T k (j - k * 36 + 1)) (by omega) (by omega)
      omega
    · unfold flr
      split
      · omega
      · exact hD0 j q3 q4
  have LL := tele (fun u => ex PG E lo d 12 27 [some (.ref n), some (.int (J (k))), some (.int (J ((snS S T k u)))), some (.int (J ((upS S k)))), some (.int (J (u)))] [] (mj μ (sA I (n + 14) (ldX S T (I (n + 14)) k u)))) (a := S 5 k) (n := upS S k) (fun u h1 h2 => by
    have hC := NC_14 hC (hX u h1 (by omega))
    obtain ⟨hN, h0, h1, h2, hS, hV, hL, hLV, hT, hTV, hA, hD, hI⟩ := id hC
    have b1 := snS_b (S := S) (T := T) (k := k) (u := u) (by omega)
    have b2 := snS_b (S := S) (T := T) (k := k) (u := u + 1) (by omega)
    have e := snS_s (S := S) (T := T) (k := k) (u := u) (by omega)
    have hu := ldX_u (S := S) (T := T) (D := I (n + 14)) (k := k) (u := u) (by omega)
    rw [b12_27]
    by_cases hw : wkS S T k u = true
    · rw [if_pos hw] at e
      rw [e] at hu
      simp (disch := omega) only [b12_33, b12_40, b12_47, b12_50, b12_53, b12_75, b12_76, gO_N hN, gR_N3 hN, gR_N4 hN, gR_N5 hN, gR_N6 hN, al_N14 hN, al_N15 hN, al_N16 hN, al_N17 hN, rd_N14 hN, rd_N15 hN, rd_N16 hN, rd_N17 hN, gP_N hN hl, wr_N14 hN hl, wr_N15 hN hl, wr_N16 hN hl, wr_N17 hN hl, gR_k h0, gR_k h1, gR_k h2, gO_S hS.1, gR_S2 hS.1, gR_S4 hS.1, gR_S5 hS.1, gR_S6 hS.1, gR_S7 hS.1, gR_S8 hS.1, gR_S9 hS.1, gR_S10 hS.1, gR_S11 hS.1, gR_S12 hS.1, gR_S14 hS.1, gR_S15 hS.1, al_S1 hS.1, al_S2 hS.1, al_S3 hS.1, al_S4 hS.1, al_S5 hS.1, al_S6 hS.1, al_S7 hS.1, al_S8 hS.1, al_S9 hS.1, al_S10 hS.1, al_S11 hS.1, al_S12 hS.1, rd_S1 hS.1, rd_S2 hS.1, rd_S3 hS.1, rd_S4 hS.1, rd_S5 hS.1, rd_S6 hS.1, rd_S7 hS.1, rd_S8 hS.1, rd_S9 hS.1, rd_S10 hS.1, rd_S11 hS.1, rd_S12 hS.1, vS_0 hS, vS_1 hS, vS_2 hS, vS_3 hS, vS_4 hS, vS_5 hS, vS_6 hS, vS_7 hS, vS_8 hS, vS_9 hS, vS_10 hS, vS_11 hS, vS_12 hS, gO_L hL.1, gR_L5 hL.1, al_L1 hL.1, rd_L1 hL.1, vL_0 hL, vL_1 hL, gO_T hT.1, gR_T3 hT.1, gR_T4 hT.1, gR_T5 hT.1, gR_T6 hT.1, al_T1 hT.1, al_T2 hT.1, al_T3 hT.1, al_T4 hT.1, rd_T1 hT.1, rd_T2 hT.1, rd_T3 hT.1, rd_T4 hT.1, vT_0 hT, vT_1 hT, vT_2 hT, vT_3 hT, vT_4 hT, wk_sp, ds_sp, u3_sA, sA_sA, sA_s, hw, Bool.true_eq_false, e, hu, Jl0, Jl1, Jl2, Jl3, Jl4, Jl5, Jl6, Jl7, Jl8, Jl9, Jl10, Jl11, Jl12, Jl13, Jl14, Jl15, Jl16, Jl17, Jl18, Jl19, Jl20, Jl22, Jl24, Jl28, Jl30, Jl31, Jl32, Jl35, Jl36, Jl37, Jl38, Jl39, Jl40, Jl48, Jl57, Jl59, Jl60, Jl61, Jl63, Jl64, Jl68, Jl69, Jl96, Jl97, Jl98, Jl99, Jl100, Jl122, Jl149, Jl150, Jl165, Jl255, Jl511, Jl512, Jl600, Jl610, Jl940, Jl968, Jl999, Jl1134, Jl1152, Jl2048, Jl4608, Jl9999, Jl99999, Jl100000, Jl147456, Jl12345, Jl1103515245, Jl100000000, Jlm1, Jlm2, J_add, J_sub, J_mul, J_lt, J_le, J_eq, J_ite, J_cl, ri_j, wi_j, b2i_z, b2i_o, b2i_zo, Int.cast_ofNat_Int, Int.natCast_zero, Int.natCast_one, if_true, if_false, ite_self, Int.le_refl, J_bit, J_or, J_neg, J_oN, Int.reduceEq, Int.reduceLT, Int.reduceLE, Int.reduceNeg, Int.reduceAdd, Int.reduceSub, Int.reduceMul, Int.reduceToNat, J_shl, J_shr, V_ite, true_or, or_true, nz_j, J_div, J_rem, Option.bind_some, Option.toList_some, Option.toList_none, List.cons_append, List.nil_append]
      rw [if_neg (by omega), if_neg (by omega)]
    · have hw' : wkS S T k u = false := Bool.eq_false_iff.mpr hw
      rw [if_neg hw] at e
      rw [e] at hu
      simp (disch := omega) only [b12_33, b12_40, b12_47, b12_53, b12_75, b12_76, gO_N hN, gR_N3 hN, gR_N4 hN, gR_N5 hN, gR_N6 hN, al_N14 hN, al_N15 hN, al_N16 hN, al_N17 hN, rd_N14 hN, rd_N15 hN, rd_N16 hN, rd_N17 hN, gP_N hN hl, wr_N14 hN hl, wr_N15 hN hl, wr_N16 hN hl, wr_N17 hN hl, gR_k h0, gR_k h1, gR_k h2, gO_S hS.1, gR_S2 hS.1, gR_S4 hS.1, gR_S5 hS.1, gR_S6 hS.1, gR_S7 hS.1, gR_S8 hS.1, gR_S9 hS.1, gR_S10 hS.1, gR_S11 hS.1, gR_S12 hS.1, gR_S14 hS.1, gR_S15 hS.1, al_S1 hS.1, al_S2 hS.1, al_S3 hS.1, al_S4 hS.1, al_S5 hS.1, al_S6 hS.1, al_S7 hS.1, al_S8 hS.1, al_S9 hS.1, al_S10 hS.1, al_S11 hS.1, al_S12 hS.1, rd_S1 hS.1, rd_S2 hS.1, rd_S3 hS.1, rd_S4 hS.1, rd_S5 hS.1, rd_S6 hS.1, rd_S7 hS.1, rd_S8 hS.1, rd_S9 hS.1, rd_S10 hS.1, rd_S11 hS.1, rd_S12 hS.1, vS_0 hS, vS_1 hS, vS_2 hS, vS_3 hS, vS_4 hS, vS_5 hS, vS_6 hS, vS_7 hS, vS_8 hS, vS_9 hS, vS_10 hS, vS_11 hS, vS_12 hS, gO_L hL.1, gR_L5 hL.1, al_L1 hL.1, rd_L1 hL.1, vL_0 hL, vL_1 hL, gO_T hT.1, gR_T3 hT.1, gR_T4 hT.1, gR_T5 hT.1, gR_T6 hT.1, al_T1 hT.1, al_T2 hT.1, al_T3 hT.1, al_T4 hT.1, rd_T1 hT.1, rd_T2 hT.1, rd_T3 hT.1, rd_T4 hT.1, vT_0 hT, vT_1 hT, vT_2 hT, vT_3 hT, vT_4 hT, wk_sp, ds_sp, u3_sA, sA_sA, sA_s, hw', e, hu, Jl0, Jl1, Jl2, Jl3, Jl4, Jl5, Jl6, Jl7, Jl8, Jl9, Jl10, Jl11, Jl12, Jl13, Jl14, Jl15, Jl16, Jl17, Jl18, Jl19, Jl20, Jl22, Jl24, Jl28, Jl30, Jl31, Jl32, Jl35, Jl36, Jl37, Jl38, Jl39, Jl40, Jl48, Jl57, Jl59, Jl60, Jl61, Jl63, Jl64, Jl68, Jl69, Jl96, Jl97, Jl98, Jl99, Jl100, Jl122, Jl149, Jl150, Jl165, Jl255, Jl511, Jl512, Jl600, Jl610, Jl940, Jl968, Jl999, Jl1134, Jl1152, Jl2048, Jl4608, Jl9999, Jl99999, Jl100000, Jl147456, Jl12345, Jl1103515245, Jl100000000, Jlm1, Jlm2, J_add, J_sub, J_mul, J_lt, J_le, J_eq, J_ite, J_cl, ri_j, wi_j, b2i_z, b2i_o, b2i_zo, Int.cast_ofNat_Int, Int.natCast_zero, Int.natCast_one, if_true, if_false, ite_self, Int.le_refl, J_bit, J_or, J_neg, J_oN, Int.reduceEq, Int.reduceLT, Int.reduceLE, Int.reduceNeg, Int.reduceAdd, Int.reduceSub, Int.reduceMul, Int.reduceToNat, J_shl, J_shr, V_ite, true_or, or_true, nz_j, J_div, J_rem, Option.bind_some, Option.toList_some, Option.toList_none, List.cons_append, List.nil_append]
      rw [if_neg (by omega), if_neg (by omega)]) (by omega)
  have hX0 : ldX S T (I (n + 14)) k (S 5 k) = flr (I (n + 14)) (k * 36) ((k + 1) * 36) (-1) := by
    funext j
    unfold ldX
    exact if_neg (by omega)
  have hX1 : ldX S T (I (n + 14)) k (upS S k) = ldR S T k (I (n + 14)) := by
    funext j
    unfold ldX ldR dpS asS flr
    by_cases h5 : k * 36 + S 5 k ≤ j ∧ j < k * 36 + upS S k
    · rw [if_pos h5, if_pos (by omega), if_pos (by rw [decide_eq_true_eq]; omega)]
    · rw [if_neg h5]
      by_cases h6 : k * 36 ≤ j ∧ j < k * 36 + 36
      · rw [if_pos (by omega), if_pos h6, if_neg (by rw [decide_eq_true_eq]; omega)]
      · rw [if_neg (by omega), if_neg h6]
  have hkw := kw_sp (E := E) (d := d) (lo := lo) (by omega) hC hl (k := k) (by omega)
  have hC := NC_14 hC (hX _ (Int.le_refl _) (by omega))
  rw [snS_0, hX0] at LL
  rw [hX0] at hC
  have hN0 := hC.1
  simp (disch := omega) only [b12_0, e12, gO_N hN0, gR_N3 hN0, gR_N4 hN0, gR_N5 hN0, gR_N6 hN0, al_N14 hN0, al_N15 hN0, al_N16 hN0, al_N17 hN0, rd_N14 hN0, rd_N15 hN0, rd_N16 hN0, rd_N17 hN0, gP_N hN0 hl, wr_N14 hN0 hl, wr_N15 hN0 hl, wr_N16 hN0 hl, wr_N17 hN0 hl, hkw, Jl0, Jl1, Jl2, Jl3, Jl4, Jl5, Jl6, Jl7, Jl8, Jl9, Jl10, Jl11, Jl12, Jl13, Jl14, Jl15, Jl16, Jl17, Jl18, Jl19, Jl20, Jl22, Jl24, Jl28, Jl30, Jl31, Jl32, Jl35, Jl36, Jl37, Jl38, Jl39, Jl40, Jl48, Jl57, Jl59, Jl60, Jl61, Jl63, Jl64, Jl68, Jl69, Jl96, Jl97, Jl98, Jl99, Jl100, Jl122, Jl149, Jl150, Jl165, Jl255, Jl511, Jl512, Jl600, Jl610, Jl940, Jl968, Jl999, Jl1134, Jl1152, Jl2048, Jl4608, Jl9999, Jl99999, Jl100000, Jl147456, Jl12345, Jl1103515245, Jl100000000, Jlm1, Jlm2, J_add, J_sub, J_mul, J_lt, J_le, J_eq, J_ite, J_cl, ri_j, wi_j, b2i_z, b2i_o, b2i_zo, Int.cast_ofNat_Int, Int.natCast_zero, Int.natCast_one, if_true, if_false, ite_self, Int.le_refl, J_bit, J_or, J_neg, J_oN, Int.reduceEq, Int.reduceLT, Int.reduceLE, Int.reduceNeg, Int.reduceAdd, Int.reduceSub, Int.reduceMul, Int.reduceToNat, J_shl, J_shr, V_ite, true_or, or_true, nz_j, J_div, J_rem, Option.bind_some, Option.toList_some, Option.toList_none, List.cons_append, List.nil_append]
  obtain ⟨hN, h0, h1, h2, hS, hV, hL, hLV, hT, hTV, hA, hD, hI⟩ := id hC
  simp (disch := omega) only [b12_5, b12_23, gO_N hN, gR_N3 hN, gR_N4 hN, gR_N5 hN, gR_N6 hN, al_N14 hN, al_N15 hN, al_N16 hN, al_N17 hN, rd_N14 hN, rd_N15 hN, rd_N16 hN, rd_N17 hN, gP_N hN hl, wr_N14 hN hl, wr_N15 hN hl, wr_N16 hN hl, wr_N17 hN hl, gR_k h0, gR_k h1, gR_k h2, gO_S hS.1, gR_S2 hS.1, gR_S4 hS.1, gR_S5 hS.1, gR_S6 hS.1, gR_S7 hS.1, gR_S8 hS.1, gR_S9 hS.1, gR_S10 hS.1, gR_S11 hS.1, gR_S12 hS.1, gR_S14 hS.1, gR_S15 hS.1, al_S1 hS.1, al_S2 hS.1, al_S3 hS.1, al_S4 hS.1, al_S5 hS.1, al_S6 hS.1, al_S7 hS.1, al_S8 hS.1, al_S9 hS.1, al_S10 hS.1, al_S11 hS.1, al_S12 hS.1, rd_S1 hS.1, rd_S2 hS.1, rd_S3 hS.1, rd_S4 hS.1, rd_S5 hS.1, rd_S6 hS.1, rd_S7 hS.1, rd_S8 hS.1, rd_S9 hS.1, rd_S10 hS.1, rd_S11 hS.1, rd_S12 hS.1, vS_0 hS, vS_1 hS, vS_2 hS, vS_3 hS, vS_4 hS, vS_5 hS, vS_6 hS, vS_7 hS, vS_8 hS, vS_9 hS, vS_10 hS, vS_11 hS, vS_12 hS, gO_L hL.1, gR_L5 hL.1, al_L1 hL.1, rd_L1 hL.1, vL_0 hL, vL_1 hL, gO_T hT.1, gR_T3 hT.1, gR_T4 hT.1, gR_T5 hT.1, gR_T6 hT.1, al_T1 hT.1, al_T2 hT.1, al_T3 hT.1, al_T4 hT.1, rd_T1 hT.1, rd_T2 hT.1, rd_T3 hT.1, rd_T4 hT.1, vT_0 hT, vT_1 hT, vT_2 hT, vT_3 hT, vT_4 hT, up_sp, Jl0, Jl1, Jl2, Jl3, Jl4, Jl5, Jl6, Jl7, Jl8, Jl9, Jl10, Jl11, Jl12, Jl13, Jl14, Jl15, Jl16, Jl17, Jl18, Jl19, Jl20, Jl22, Jl24, Jl28, Jl30, Jl31, Jl32, Jl35, Jl36, Jl37, Jl38, Jl39, Jl40, Jl48, Jl57, Jl59, Jl60, Jl61, Jl63, Jl64, Jl68, Jl69, Jl96, Jl97, Jl98, Jl99, Jl100, Jl122, Jl149, Jl150, Jl165, Jl255, Jl511, Jl512, Jl600, Jl610, Jl940, Jl968, Jl999, Jl1134, Jl1152, Jl2048, Jl4608, Jl9999, Jl99999, Jl100000, Jl147456, Jl12345, Jl1103515245, Jl100000000, Jlm1, Jlm2, J_add, J_sub, J_mul, J_lt, J_le, J_eq, J_ite, J_cl, ri_j, wi_j, b2i_z, b2i_o, b2i_zo, Int.cast_ofNat_Int, Int.natCast_zero, Int.natCast_one, if_true, if_false, ite_self, Int.le_refl, J_bit, J_or, J_neg, J_oN, Int.reduceEq, Int.reduceLT, Int.reduceLE, Int.reduceNeg, Int.reduceAdd, Int.reduceSub, Int.reduceMul, Int.reduceToNat, J_shl, J_shr, V_ite, true_or, or_true, nz_j, J_div, J_rem, Option.bind_some, Option.toList_some, Option.toList_none, List.cons_append, List.nil_append]
  refine LL.trans ?_
  rw [b12_27, hX1]
  simp (disch := omega) only [b12_82, Jl0, Jl1, Jl2, Jl3, Jl4, Jl5, Jl6, Jl7, Jl8, Jl9, Jl10, Jl11, Jl12, Jl13, Jl14, Jl15, Jl16, Jl17, Jl18, Jl19, Jl20, Jl22, Jl24, Jl28, Jl30, Jl31, Jl32, Jl35, Jl36, Jl37, Jl38, Jl39, Jl40, Jl48, Jl57, Jl59, Jl60, Jl61, Jl63, Jl64, Jl68, Jl69, Jl96, Jl97, Jl98, Jl99, Jl100, Jl122, Jl149, Jl150, Jl165, Jl255, Jl511, Jl512, Jl600, Jl610, Jl940, Jl968, Jl999, Jl1134, Jl1152, Jl2048, Jl4608, Jl9999, Jl99999, Jl100000, Jl147456, Jl12345, Jl1103515245, Jl100000000, Jlm1, Jlm2, J_add, J_sub, J_mul, J_lt, J_le, J_eq, J_ite, J_cl, ri_j, wi_j, b2i_z, b2i_o, b2i_zo, Int.cast_ofNat_Int, Int.natCast_zero, Int.natCast_one, if_true, if_false, ite_self, Int.le_refl, J_bit, J_or, J_neg, J_oN, Int.reduceEq, Int.reduceLT, Int.reduceLE, Int.reduceNeg, Int.reduceAdd, Int.reduceSub, Int.reduceMul, Int.reduceToNat, J_shl, J_shr, V_ite, true_or, or_true, nz_j, J_div, J_rem, Option.bind_some, Option.toList_some, Option.toList_none, List.cons_append, List.nil_append]
end NIGHT
