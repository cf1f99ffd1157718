/-! NIGHTS of the class: dues -/
/-- the beds' readings, of the first i -/
def bdX (S : Nat → Int → Int) (D si f : Int → Int) (u h i : Int) : Int → Int := fun j => if 0 ≤ j ∧ j < 4 then mx (fun k => decide (S 3 k = h ∧ S 4 k = j)) (fun k => rdS S D si k u) i else f j
theorem bdX_n {S : Nat → Int → Int} {D si f : Int → Int} {u h i : Int} (hi : 0 ≤ i) (hc : ¬ S 3 i = h) : bdX S D si f u h (i + 1) = bdX S D si f u h i := by
  funext j
  unfold bdX
  split
  · rw [mx_s _ _ hi, if_neg]
    rw [decide_eq_true_eq]
    exact fun q => hc q.1.1
  · rfl
theorem bdX_u {S : Nat → Int → Int} {D si f : Int → Int} {u h i : Int} (hi : 0 ≤ i) (hc : S 3 i = h) (hb : 0 ≤ S 4 i ∧ S 4 i ≤ 3) : u1 (bdX S D si f u h i) (S 4 i) (if bdX S D si f u h i (S 4 i) < rdS S D si i u then rdS S D si i u else bdX S D si f u h i (S 4 i)) = bdX S D si f u h (i + 1) := by
  funext j
  by_cases hj : j = S 4 i
  · rw [hj, u1_s]
    unfold bdX
    simp only [if_pos (show 0 ≤ S 4 i ∧ S 4 i < 4 by omega)]
    rw [mx_s _ _ hi]
    simp only [hc, decide_true, true_and, and_self]
  · rw [u1_n hj]
    unfold bdX
    split
    · rw [mx_s _ _ hi, if_neg]
      rw [decide_eq_true_eq]
      exact fun q => hj q.1.2.symm
    · rfl
theorem bdX_f {S : Nat → Int → Int} {D si f : Int → Int} {u h : Int} : bdX S D si f u h 0 = flr f 0 4 (-1) := by
  funext j
  unfold bdX flr
  rfl
/-- dues, of the first i, behind a sounding -/
def dsX (S L T : Nat → Int → Int) (D si f : Int → Int) (u i : Int) : Int → Int := fun k => if 0 ≤ k ∧ k < i then f k + ctS S L T D si k u else f k
theorem dsX_u {S L T : Nat → Int → Int} {D si f : Int → Int} {u i : Int} (hi : 0 ≤ i) : u1 (dsX S L T D si f u i) i (f i + ctS S L T D si i u) = dsX S L T D si f u (i + 1) := by
  funext k
  unfold u1 dsX
  by_cases hk : k = i
  · subst hk; rw [if_pos rfl, if_pos (by omega)]
  · rw [if_neg hk]
    by_cases h2 : 0 ≤ k ∧ k < i
    · rw [if_pos h2, if_pos (by omega)]
    · rw [if_neg h2, if_neg (by omega)]
theorem dsX_i {S L T : Nat → Int → Int} {D si f : Int → Int} {u i : Int} : dsX S L T D si f u i i = f i := by
  unfold dsX
  rw [if_neg (by omega)]
theorem dsX_0 {S L T : Nat → Int → Int} {D si f : Int → Int} {u : Int} : dsX S L T D si f u 0 = f := by
  funext k
  unfold dsX
  rw [if_neg (by omega)]
theorem u1_id {f : Int → Int} {x : Int} : u1 f x (f x) = f := by
  funext k
  unfold u1
  split
  · rename_i h; rw [h]
  · rfl
section NIGHT
variable {E : (Nat → Value) × (Nat → Nat)} {lo d n s l t : Nat} {μ : rM} {I S L T : Nat → Int → Int} {k u x y h w r : Int} {p : Bool} {f : Int → Int}
theorem bd_sp (hd : 2 ≤ d) (hC : NC μ I n s l t S L T) (hl : lo ≤ n) (hu : 0 ≤ u ∧ u < 36) (hh : 0 ≤ h ∧ h < 8) : cl E lo d 24 [.ref n, .int (J (h)), .int (J (u))] (mj μ I) = some (none, mj μ (sA I (n + 17) (bdX S (I (n + 14)) (I (n + 15)) (I (n + 17)) u h (S 0 3)))) := by
  obtain ⟨d, rfl⟩ : ∃ e, d = e + 1 := ⟨d - 1, by omega⟩
  have hN := hC.1
  have hV := hC.2.2.2.2.2.1
  have := hV.1
  have hf := fill_sp (E := E) (d := d) (lo := lo) (I := I) (v := -1) (by omega) (hN.2 (6, 17, 0, 4) (by decide)).2 (by dsimp only; omega) (by decide)
  obtain ⟨q, LL⟩ := loopq (fun i q => ex PG E lo d 24 10 [some (.ref n), some (.int (J (h))), some (.int (J (u))), some (.int (J (i))), q] [] (mj μ (sA I (n + 17) (bdX S (I (n + 14)) (I (n + 15)) (I (n + 17)) u h i)))) (a := 0) (n := S 0 3) (fun i q f1 f2 => by
    have hC := NC_sA (f := bdX S (I (n + 14)) (I (n + 15)) (I (n + 17)) u h i) hC (c := n + 17) (by omega)
    obtain ⟨hN, h0, h1, h2, hS, hV, hL, hLV, hT, hTV, hA, hD, hI⟩ := id hC
    have w1 := hV.2.2.1 i f1 f2
    have e14 : sA I (n + 17) (bdX S (I (n + 14)) (I (n + 15)) (I (n + 17)) u h i) (n + 14) = I (n + 14) := sA_n (by omega)
    have e15 : sA I (n + 17) (bdX S (I (n + 14)) (I (n + 15)) (I (n + 17)) u h i) (n + 15) = I (n + 15) := sA_n (by omega)
    rw [e14] at hD
    rw [e15] at hI
    have w2 := rdS_b (S := S) hD hI (k := i) (u := u) (by omega) hu
    have w3 : -1 ≤ bdX S (I (n + 14)) (I (n + 15)) (I (n + 17)) u h i (S 4 i) ∧ bdX S (I (n + 14)) (I (n + 15)) (I (n + 17)) u h i (S 4 i) ≤ 100 := by
      unfold bdX
      rw [if_pos (by omega)]
      exact mx_b _ _ (by omega) (by omega) (fun j h1 h2 _ => (rdS_b hD hI (by omega) hu).2)
    by_cases hc : S 3 i = h
    · refine ⟨some (.int (J (S 4 i))), ?_⟩
      rw [b24_10]
      simp (disch := omega) only [b24_21, b24_34, b24_64, b24_68, gO_N hN, gR_N3 hN, gR_N4 hN, gR_N5 hN, gR_N6 hN, al_N14 hN, al_N15 hN, al_N16 hN, al_N17 hN, rd_N14 hN, rd_N15 hN, rd_N16 hN, rd_N17 hN, gP_N hN hl, wr_N14 hN hl, wr_N15 hN hl, wr_N16 hN hl, wr_N17 hN hl, gR_k h0, gR_k h1, gR_k h2, gO_S hS.1, gR_S2 hS.1, gR_S4 hS.1, gR_S5 hS.1, gR_S6 hS.1, gR_S7 hS.1, gR_S8 hS.1, gR_S9 hS.1, gR_S10 hS.1, gR_S11 hS.1, gR_S12 hS.1, gR_S14 hS.1, gR_S15 hS.1, al_S1 hS.1, al_S2 hS.1, al_S3 hS.1, al_S4 hS.1, al_S5 hS.1, al_S6 hS.1, al_S7 hS.1, al_S8 hS.1, al_S9 hS.1, al_S10 hS.1, al_S11 hS.1, al_S12 hS.1, rd_S1 hS.1, rd_S2 hS.1, rd_S3 hS.1, rd_S4 hS.1, rd_S5 hS.1, rd_S6 hS.1, rd_S7 hS.1, rd_S8 hS.1, rd_S9 hS.1, rd_S10 hS.1, rd_S11 hS.1, rd_S12 hS.1, vS_0 hS, vS_1 hS, vS_2 hS, vS_3 hS, vS_4 hS, vS_5 hS, vS_6 hS, vS_7 hS, vS_8 hS, vS_9 hS, vS_10 hS, vS_11 hS, vS_12 hS, gO_L hL.1, gR_L5 hL.1, al_L1 hL.1, rd_L1 hL.1, vL_0 hL, vL_1 hL, gO_T hT.1, gR_T3 hT.1, gR_T4 hT.1, gR_T5 hT.1, gR_T6 hT.1, al_T1 hT.1, al_T2 hT.1, al_T3 hT.1, al_T4 hT.1, rd_T1 hT.1, rd_T2 hT.1, rd_T3 hT.1, rd_T4 hT.1, vT_0 hT, vT_1 hT, vT_2 hT, vT_3 hT, vT_4 hT, rd_sp, hc, e14, e15, u3_sA, sA_sA, sA_s, bdX_u, Jl0, Jl1, Jl2, Jl3, Jl4, Jl5, Jl6, Jl7, Jl8, Jl9, Jl10, Jl11, Jl12, Jl13, Jl14, Jl15, Jl16, Jl17, Jl18, Jl19, Jl20, Jl22, Jl24, Jl28, Jl30, Jl31, Jl32, Jl35, Jl36, Jl37, Jl38, Jl39, Jl40, Jl48, Jl57, Jl59, Jl60, Jl61, Jl63, Jl64, Jl68, Jl69, Jl96, Jl97, Jl98, Jl99, Jl100, Jl122, Jl149, Jl150, Jl165, Jl255, Jl511, Jl512, Jl600, Jl610, Jl940, Jl968, Jl999, Jl1134, Jl1152, Jl2048, Jl4608, Jl9999, Jl99999, Jl100000, Jl147456, Jl12345, Jl1103515245, Jl100000000, Jlm1, Jlm2, J_add, J_sub, J_mul, J_lt, J_le, J_eq, J_ite, J_cl, ri_j, wi_j, b2i_z, b2i_o, b2i_zo, Int.cast_ofNat_Int, Int.natCast_zero, Int.natCast_one, if_true, if_false, ite_self, Int.le_refl, J_bit, J_or, J_neg, J_oN, Int.reduceEq, Int.reduceLT, Int.reduceLE, Int.reduceNeg, Int.reduceAdd, Int.reduceSub, Int.reduceMul, Int.reduceToNat, J_shl, J_shr, V_ite, true_or, or_true, nz_j, J_div, J_rem, Option.bind_some, Option.toList_some, Option.toList_none, List.cons_append, List.nil_append]
      rw [if_neg (by omega)]
    · refine ⟨q, ?_⟩
      rw [b24_10, bdX_n f1 hc]
      simp (disch := omega) only [b24_21, b24_68, gO_N hN, gR_N3 hN, gR_N4 hN, gR_N5 hN, gR_N6 hN, al_N14 hN, al_N15 hN, al_N16 hN, al_N17 hN, rd_N14 hN, rd_N15 hN, rd_N16 hN, rd_N17 hN, gP_N hN hl, wr_N14 hN hl, wr_N15 hN hl, wr_N16 hN hl, wr_N17 hN hl, gR_k h0, gR_k h1, gR_k h2, gO_S hS.1, gR_S2 hS.1, gR_S4 hS.1, gR_S5 hS.1, gR_S6 hS.1, gR_S7 hS.1, gR_S8 hS.1, gR_S9 hS.1, gR_S10 hS.1, gR_S11 hS.1, gR_S12 hS.1, gR_S14 hS.1, gR_S15 hS.1, al_S1 hS.1, al_S2 hS.1, al_S3 hS.1, al_S4 hS.1, al_S5 hS.1, al_S6 hS.1, al_S7 hS.1, al_S8 hS.1, al_S9 hS.1, al_S10 hS.1, al_S11 hS.1, al_S12 hS.1, rd_S1 hS.1, rd_S2 hS.1, rd_S3 hS.1, rd_S4 hS.1, rd_S5 hS.1, rd_S6 hS.1, rd_S7 hS.1, rd_S8 hS.1, rd_S9 hS.1, rd_S10 hS.1, rd_S11 hS.1, rd_S12 hS.1, vS_0 hS, vS_1 hS, vS_2 hS, vS_3 hS, vS_4 hS, vS_5 hS, vS_6 hS, vS_7 hS, vS_8 hS, vS_9 hS, vS_10 hS, vS_11 hS, vS_12 hS, gO_L hL.1, gR_L5 hL.1, al_L1 hL.1, rd_L1 hL.1, vL_0 hL, vL_1 hL, gO_T hT.1, gR_T3 hT.1, gR_T4 hT.1, gR_T5 hT.1, gR_T6 hT.1, al_T1 hT.1, al_T2 hT.1, al_T3 hT.1, al_T4 hT.1, rd_T1 hT.1, rd_T2 hT.1, rd_T3 hT.1, rd_T4 hT.1, vT_0 hT, vT_1 hT, vT_2 hT, vT_3 hT, vT_4 hT, hc, Jl0, Jl1, Jl2, Jl3, Jl4, Jl5, Jl6, Jl7, Jl8, Jl9, Jl10, Jl11, Jl12, Jl13, Jl14, Jl15, Jl16, Jl17, Jl18, Jl19, Jl20, Jl22, Jl24, Jl28, Jl30, Jl31, Jl32, Jl35, Jl36, Jl37, Jl38, Jl39, Jl40, Jl48, Jl57, Jl59, Jl60, Jl61, Jl63, Jl64, Jl68, Jl69, Jl96, Jl97, Jl98, Jl99, Jl100, Jl122, Jl149, Jl150, Jl165, Jl255, Jl511, Jl512, Jl600, Jl610, Jl940, Jl968, Jl999, Jl1134, Jl1152, Jl2048, Jl4608, Jl9999, Jl99999, Jl100000, Jl147456, Jl12345, Jl1103515245, Jl100000000, Jlm1, Jlm2, J_add, J_sub, J_mul, J_lt, J_le, J_eq, J_ite, J_cl, ri_j, wi_j, b2i_z, b2i_o, b2i_zo, Int.cast_ofNat_Int, Int.natCast_zero, Int.natCast_one, if_true, if_false, ite_self, Int.le_refl, J_bit, J_or, J_neg, J_oN, Int.reduceEq, Int.reduceLT, Int.reduceLE, Int.reduceNeg, Int.reduceAdd, Int.reduceSub, Int.reduceMul, Int.reduceToNat, J_shl, J_shr, V_ite, true_or, or_true, nz_j, J_div, J_rem, Option.bind_some, Option.toList_some, Option.toList_none, List.cons_append, List.nil_append]
      rw [if_neg (by omega)]) (by omega) none
  rw [bdX_f] at LL
  simp (disch := omega) only [b24_0, e24, gO_N hN, gR_N3 hN, gR_N4 hN, gR_N5 hN, gR_N6 hN, al_N14 hN, al_N15 hN, al_N16 hN, al_N17 hN, rd_N14 hN, rd_N15 hN, rd_N16 hN, rd_N17 hN, gP_N hN hl, wr_N14 hN hl, wr_N15 hN hl, wr_N16 hN hl, wr_N17 hN hl, hf, Jl0, Jl1, Jl2, Jl3, Jl4, Jl5, Jl6, Jl7, Jl8, Jl9, Jl10, Jl11, Jl12, Jl13, Jl14, Jl15, Jl16, Jl17, Jl18, Jl19, Jl20, Jl22, Jl24, Jl28, Jl30, Jl31, Jl32, Jl35, Jl36, Jl37, Jl38, Jl39, Jl40, Jl48, Jl57, Jl59, Jl60, Jl61, Jl63, Jl64, Jl68, Jl69, Jl96, Jl97, Jl98, Jl99, Jl100, Jl122, Jl149, Jl150, Jl165, Jl255, Jl511, Jl512, Jl600, Jl610, Jl940, Jl968, Jl999, Jl1134, Jl1152, Jl2048, Jl4608, Jl9999, Jl99999, Jl100000, Jl147456, Jl12345, Jl1103515245, Jl100000000, Jlm1, Jlm2, J_add, J_sub, J_mul, J_lt, J_le, J_eq, J_ite, J_cl, ri_j, wi_j, b2i_z, b2i_o, b2i_zo, Int.cast_ofNat_Int, Int.natCast_zero, Int.natCast_one, if_true, if_false, ite_self, Int.le_refl, J_bit, J_or, J_neg, J_oN, Int.reduceEq, Int.reduceLT, Int.reduceLE, Int.reduceNeg, Int.reduceAdd, Int.reduceSub, Int.reduceMul, Int.reduceToNat, J_shl, J_shr, V_ite, true_or, or_true, nz_j, J_div, J_rem, Option.bind_some, Option.toList_some, Option.toList_none, List.cons_append, List.nil_append]
  refine Eq.trans ?_ (LL.trans ?_)
  · simp (disch := omega) only [b24_8, Jl0, Jl1, Jl2, Jl3, Jl4, Jl5, Jl6, Jl7, Jl8, Jl9, Jl10, Jl11, Jl12, Jl13, Jl14, Jl15, Jl16, Jl17, Jl18, Jl19, Jl20, Jl22, Jl24, Jl28, Jl30, Jl31, Jl32, Jl35, Jl36, Jl37, Jl38, Jl39, Jl40, Jl48, Jl57, Jl59, Jl60, Jl61, Jl63, Jl64, Jl68, Jl69, Jl96, Jl97, Jl98, Jl99, Jl100, Jl122, Jl149, Jl150, Jl165, Jl255, Jl511, Jl512, Jl600, Jl610, Jl940, Jl968, Jl999, Jl1134, Jl1152, Jl2048, Jl4608, Jl9999, Jl99999, Jl100000, Jl147456, Jl12345, Jl1103515245, Jl100000000, Jlm1, Jlm2, J_add, J_sub, J_mul, J_lt, J_le, J_eq, J_ite, J_cl, ri_j, wi_j, b2i_z, b2i_o, b2i_zo, Int.cast_ofNat_Int, Int.natCast_zero, Int.natCast_one, if_true, if_false, ite_self, Int.le_refl, J_bit, J_or, J_neg, J_oN, Int.reduceEq, Int.reduceLT, Int.reduceLE, Int.reduceNeg, Int.reduceAdd, Int.reduceSub, Int.reduceMul, Int.reduceToNat, J_shl, J_shr, V_ite, true_or, or_true, nz_j, J_div, J_rem, Option.bind_some, Option.toList_some, Option.toList_none, List.cons_append, List.nil_append]
  · rw [b24_10]
    have hC := NC_sA (f := bdX S (I (n + 14)) (I (n + 15)) (I (n + 17)) u h (S 0 3)) hC (c := n + 17) (by omega)
    obtain ⟨hN, h0, h1, h2, hS, hV, hL, hLV, hT, hTV, hA, hD, hI⟩ := id hC
    simp (disch := omega) only [b24_74, gO_N hN, gR_N3 hN, gR_N4 hN, gR_N5 hN, gR_N6 hN, al_N14 hN, al_N15 hN, al_N16 hN, al_N17 hN, rd_N14 hN, rd_N15 hN, rd_N16 hN, rd_N17 hN, gP_N hN hl, wr_N14 hN hl, wr_N15 hN hl, wr_N16 hN hl, wr_N17 hN hl, gR_k h0, gR_k h1, gR_k h2, gO_S hS.1, gR_S2 hS.1, gR_S4 hS.1, gR_S5 hS.1, gR_S6 hS.1, gR_S7 hS.1, gR_S8 hS.1, gR_S9 hS.1, gR_S10 hS.1, gR_S11 hS.1, gR_S12 hS.1, gR_S14 hS.1, gR_S15 hS.1, al_S1 hS.1, al_S2 hS.1, al_S3 hS.1, al_S4 hS.1, al_S5 hS.1, al_S6 hS.1, al_S7 hS.1, al_S8 hS.1, al_S9 hS.1, al_S10 hS.1, al_S11 hS.1, al_S12 hS.1, rd_S1 hS.1, rd_S2 hS.1, rd_S3 hS.1, rd_S4 hS.1, rd_S5 hS.1, rd_S6 hS.1, rd_S7 hS.1, rd_S8 hS.1, rd_S9 hS.1, rd_S10 hS.1, rd_S11 hS.1, rd_S12 hS.1, vS_0 hS, vS_1 hS, vS_2 hS, vS_3 hS, vS_4 hS, vS_5 hS, vS_6 hS, vS_7 hS, vS_8 hS, vS_9 hS, vS_10 hS, vS_11 hS, vS_12 hS, gO_L hL.1, gR_L5 hL.1, al_L1 hL.1, rd_L1 hL.1, vL_0 hL, vL_1 hL, gO_T hT.1, gR_T3 hT.1, gR_T4 hT.1, gR_T5 hT.1, gR_T6 hT.1, al_T1 hT.1, al_T2 hT.1, al_T3 hT.1, al_T4 hT.1, rd_T1 hT.1, rd_T2 hT.1, rd_T3 hT.1, rd_T4 hT.1, vT_0 hT, vT_1 hT, vT_2 hT, vT_3 hT, vT_4 hT, Jl0, Jl1, Jl2, Jl3, Jl4, Jl5, Jl6, Jl7, Jl8, Jl9, Jl10, Jl11, Jl12, Jl13, Jl14, Jl15, Jl16, Jl17, Jl18, Jl19, Jl20, Jl22, Jl24, Jl28, Jl30, Jl31, Jl32, Jl35, Jl36, Jl37, Jl38, Jl39, Jl40, Jl48, Jl57, Jl59, Jl60, Jl61, Jl63, Jl64, Jl68, Jl69, Jl96, Jl97, Jl98, Jl99, Jl100, Jl122, Jl149, Jl150, Jl165, Jl255, Jl511, Jl512, Jl600, Jl610, Jl940, Jl968, Jl999, Jl1134, Jl1152, Jl2048, Jl4608, Jl9999, Jl99999, Jl100000, Jl147456, Jl12345, Jl1103515245, Jl100000000, Jlm1, Jlm2, J_add, J_sub, J_mul, J_lt, J_le, J_eq, J_ite, J_cl, ri_j, wi_j, b2i_z, b2i_o, b2i_zo, Int.cast_ofNat_Int, Int.natCast_zero, Int.natCast_one, if_true, if_false, ite_self, Int.le_refl, J_bit, J_or, J_neg, J_oN, Int.reduceEq, Int.reduceLT, Int.reduceLE, Int.reduceNeg, Int.reduceAdd, Int.reduceSub, Int.reduceMul, Int.reduceToNat, J_shl, J_shr, V_ite, true_or, or_true, nz_j, J_div, J_rem, Option.bind_some, Option.toList_some, Option.toList_none, List.cons_append, List.nil_append]
theorem rs_sp (hd : 3 ≤ d) (hC : NC μ I n s l t S L T) (hl : lo ≤ n) (hu : 0 ≤ u ∧ u < 36) (hh : 0 ≤ T 2 u) : ∃ g, cl E lo d 23 [.ref n, .int (J (u))] (mj μ I) = some (none, mj μ (sA (sA I (n + 17) g) (n + 16) (dsX S L T (I (n + 14)) (I (n + 15)) (I (n + 16)) u (S 0 3)))) := by
  obtain ⟨d, rfl⟩ : ∃ e, d = e + 1 := ⟨d - 1, by omega⟩
  have hV := hC.2.2.2.2.2.1
  have hLV := hC.2.2.2.2.2.2.2.1
  have hTV := hC.2.2.2.2.2.2.2.2.2.1
  have w0 := hV.1
  have w1 := hTV.2.1 u hu.1 hu.2
  have w4 := hLV.1
  -- the beds' readings stand in g
  have main : ∀ g, (L 0 4 = 0 ∨ ∀ j, 0 ≤ j → j < 4 → g j = bdS S (I (n + 14)) (I (n + 15)) u (T 2 u) j) → ex PG E lo d 23 26 [some (.ref n), some (.int (J (u))), some (.int (J ((T 2 u)))), none, none, none] [] (mj μ (sA I (n + 17) g)) = some (none, mj μ (sA (sA I (n + 17) g) (n + 16) (dsX S L T (I (n + 14)) (I (n + 15)) (I (n + 16)) u (S 0 3)))) := by
    intro g hg
    obtain ⟨q, LL⟩ := loopq (fun i (q : Option Value × Option Value) => ex PG E lo d 23 28 [some (.ref n), some (.int (J (u))), some (.int (J ((T 2 u)))), some (.int (J (i))), q.1, q.2] [] (mj μ (sA (sA I (n + 17) g) (n + 16) (dsX S L T (I (n + 14)) (I (n + 15)) (I (n + 16)) u i)))) (a := 0) (n := S 0 3) (fun i q f1 f2 => by
      have hC := NC_sA (f := dsX S L T (I (n + 14)) (I (n + 15)) (I (n + 16)) u i) (NC_sA (f := g) hC (c := n + 17) (by omega)) (c := n + 16) (by omega)
      generalize hI' : sA (sA I (n + 17) g) (n + 16) (dsX S L T (I (n + 14)) (I (n + 15)) (I (n + 16)) u i) = I' at hC
      have e14 : I' (n + 14) = I (n + 14) := by rw [← hI', sA_n (by omega), sA_n (by omega)]
      have e15 : I' (n + 15) = I (n + 15) := by rw [← hI', sA_n (by omega), sA_n (by omega)]
      have e16 : I' (n + 16) = dsX S L T (I (n + 14)) (I (n + 15)) (I (n + 16)) u i := by rw [← hI', sA_s]
      have e17 : I' (n + 17) = g := by rw [← hI', sA_n (by omega), sA_s]
      have eu : ∀ v, v = I (n + 16) i + ctS S L T (I (n + 14)) (I (n + 15)) i u → sA I' (n + 16) (u1 (dsX S L T (I (n + 14)) (I (n + 15)) (I (n + 16)) u i) i v) = sA (sA I (n + 17) g) (n + 16) (dsX S L T (I (n + 14)) (I (n + 15)) (I (n + 16)) u (i + 1)) := by
        intro v hv
        rw [hv, dsX_u f1, ← hI', sA_sA]
      obtain ⟨hN, h0, h1, h2, hS, hV, hL, hLV, hT, hTV, hA, hD, hI⟩ := id hC
      have w2 := hV.2.2.1 i f1 f2
      rw [e14] at hD
      rw [e15] at hI
      have w3 := rdS_b (S := S) hD hI (k := i) (u := u) (by omega) hu
      have w5 := bdS_b hV hD hI (u := u) (h := S 3 i) (j := S 4 i) hu
      by_cases c0 : S 3 i = T 2 u
      · by_cases c1 : rdS S (I (n + 14)) (I (n + 15)) i u = -1
        · refine ⟨(some (.int (J (-1))), q.2), ?_⟩
          have ec : ctS S L T (I (n + 14)) (I (n + 15)) i u = 0 := by
            unfold ctS cgS
            rw [if_pos c0, if_pos c1, Int.mul_zero]
          have e1 := eu (I (n + 16) i) (by rw [ec, Int.add_zero])
          rw [show (I (n + 16) i) = dsX S L T (I (n + 14)) (I (n + 15)) (I (n + 16)) u i i from dsX_i.symm, u1_id] at e1
          rw [← e16, sA_id] at e1
          rw [b23_28, ← e1]
          simp (disch := omega) only [b23_39, b23_52, b23_58, b23_62, b23_140, gO_N hN, gR_N3 hN, gR_N4 hN, gR_N5 hN, gR_N6 hN, al_N14 hN, al_N15 hN, al_N16 hN, al_N17 hN, rd_N14 hN, rd_N15 hN, rd_N16 hN, rd_N17 hN, gP_N hN hl, wr_N14 hN hl, wr_N15 hN hl, wr_N16 hN hl, wr_N17 hN hl, gR_k h0, gR_k h1, gR_k h2, gO_S hS.1, gR_S2 hS.1, gR_S4 hS.1, gR_S5 hS.1, gR_S6 hS.1, gR_S7 hS.1, gR_S8 hS.1, gR_S9 hS.1, gR_S10 hS.1, gR_S11 hS.1, gR_S12 hS.1, gR_S14 hS.1, gR_S15 hS.1, al_S1 hS.1, al_S2 hS.1, al_S3 hS.1, al_S4 hS.1, al_S5 hS.1, al_S6 hS.1, al_S7 hS.1, al_S8 hS.1, al_S9 hS.1, al_S10 hS.1, al_S11 hS.1, al_S12 hS.1, rd_S1 hS.1, rd_S2 hS.1, rd_S3 hS.1, rd_S4 hS.1, rd_S5 hS.1, rd_S6 hS.1, rd_S7 hS.1, rd_S8 hS.1, rd_S9 hS.1, rd_S10 hS.1, rd_S11 hS.1, rd_S12 hS.1, vS_0 hS, vS_1 hS, vS_2 hS, vS_3 hS, vS_4 hS, vS_5 hS, vS_6 hS, vS_7 hS, vS_8 hS, vS_9 hS, vS_10 hS, vS_11 hS, vS_12 hS, gO_L hL.1, gR_L5 hL.1, al_L1 hL.1, rd_L1 hL.1, vL_0 hL, vL_1 hL, gO_T hT.1, gR_T3 hT.1, gR_T4 hT.1, gR_T5 hT.1, gR_T6 hT.1, al_T1 hT.1, al_T2 hT.1, al_T3 hT.1, al_T4 hT.1, rd_T1 hT.1, rd_T2 hT.1, rd_T3 hT.1, rd_T4 hT.1, vT_0 hT, vT_1 hT, vT_2 hT, vT_3 hT, vT_4 hT, rd_sp, c0, e14, e15, c1, Jl0, Jl1, Jl2, Jl3, Jl4, Jl5, Jl6, Jl7, Jl8, Jl9, Jl10, Jl11, Jl12, Jl13, Jl14, Jl15, Jl16, Jl17, Jl18, Jl19, Jl20, Jl22, Jl24, Jl28, Jl30, Jl31, Jl32, Jl35, Jl36, Jl37, Jl38, Jl39, Jl40, Jl48, Jl57, Jl59, Jl60, Jl61, Jl63, Jl64, Jl68, Jl69, Jl96, Jl97, Jl98, Jl99, Jl100, Jl122, Jl149, Jl150, Jl165, Jl255, Jl511, Jl512, Jl600, Jl610, Jl940, Jl968, Jl999, Jl1134, Jl1152, Jl2048, Jl4608, Jl9999, Jl99999, Jl100000, Jl147456, Jl12345, Jl1103515245, Jl100000000, Jlm1, Jlm2, J_add, J_sub, J_mul, J_lt, J_le, J_eq, J_ite, J_cl, ri_j, wi_j, b2i_z, b2i_o, b2i_zo, Int.cast_ofNat_Int, Int.natCast_zero, Int.natCast_one, if_true, if_false, ite_self, Int.le_refl, J_bit, J_or, J_neg, J_oN, Int.reduceEq, Int.reduceLT, Int.reduceLE, Int.reduceNeg, Int.reduceAdd, Int.reduceSub, Int.reduceMul, Int.reduceToNat, J_shl, J_shr, V_ite, true_or, or_true, nz_j, J_div, J_rem, Option.bind_some, Option.toList_some, Option.toList_none, List.cons_append, List.nil_append]
          rw [if_neg (by omega)]
        · by_cases c2 : L 0 4 = 0
          · refine ⟨(some (.int (J (rdS S (I (n + 14)) (I (n + 15)) i u))), some (.int (J (rdS S (I (n + 14)) (I (n + 15)) i u)))), ?_⟩
            have ec : ctS S L T (I (n + 14)) (I (n + 15)) i u = T 3 u * chS L (rdS S (I (n + 14)) (I (n + 15)) i u) u (T 2 u) (poS S i u) := by
              unfold ctS cgS
              rw [if_pos c0, if_neg c1, if_pos c2, c0]
            rw [b23_28, ← eu _ (by rw [ec])]
            simp (disch := omega) only [b23_39, b23_52, b23_58, b23_62, b23_70, b23_97, b23_99, b23_134, b23_137, b23_140, gO_N hN, gR_N3 hN, gR_N4 hN, gR_N5 hN, gR_N6 hN, al_N14 hN, al_N15 hN, al_N16 hN, al_N17 hN, rd_N14 hN, rd_N15 hN, rd_N16 hN, rd_N17 hN, gP_N hN hl, wr_N14 hN hl, wr_N15 hN hl, wr_N16 hN hl, wr_N17 hN hl, gR_k h0, gR_k h1, gR_k h2, gO_S hS.1, gR_S2 hS.1, gR_S4 hS.1, gR_S5 hS.1, gR_S6 hS.1, gR_S7 hS.1, gR_S8 hS.1, gR_S9 hS.1, gR_S10 hS.1, gR_S11 hS.1, gR_S12 hS.1, gR_S14 hS.1, gR_S15 hS.1, al_S1 hS.1, al_S2 hS.1, al_S3 hS.1, al_S4 hS.1, al_S5 hS.1, al_S6 hS.1, al_S7 hS.1, al_S8 hS.1, al_S9 hS.1, al_S10 hS.1, al_S11 hS.1, al_S12 hS.1, rd_S1 hS.1, rd_S2 hS.1, rd_S3 hS.1, rd_S4 hS.1, rd_S5 hS.1, rd_S6 hS.1, rd_S7 hS.1, rd_S8 hS.1, rd_S9 hS.1, rd_S10 hS.1, rd_S11 hS.1, rd_S12 hS.1, vS_0 hS, vS_1 hS, vS_2 hS, vS_3 hS, vS_4 hS, vS_5 hS, vS_6 hS, vS_7 hS, vS_8 hS, vS_9 hS, vS_10 hS, vS_11 hS, vS_12 hS, gO_L hL.1, gR_L5 hL.1, al_L1 hL.1, rd_L1 hL.1, vL_0 hL, vL_1 hL, gO_T hT.1, gR_T3 hT.1, gR_T4 hT.1, gR_T5 hT.1, gR_T6 hT.1, al_T1 hT.1, al_T2 hT.1, al_T3 hT.1, al_T4 hT.1, rd_T1 hT.1, rd_T2 hT.1, rd_T3 hT.1, rd_T4 hT.1, vT_0 hT, vT_1 hT, vT_2 hT, vT_3 hT, vT_4 hT, rd_sp, po_sp, ch_sp, c0, e14, e15, c1, c2, u3_sA, e16, dsX_i, Jl0, Jl1, Jl2, Jl3, Jl4, Jl5, Jl6, Jl7, Jl8, Jl9, Jl10, Jl11, Jl12, Jl13, Jl14, Jl15, Jl16, Jl17, Jl18, Jl19, Jl20, Jl22, Jl24, Jl28, Jl30, Jl31, Jl32, Jl35, Jl36, Jl37, Jl38, Jl39, Jl40, Jl48, Jl57, Jl59, Jl60, Jl61, Jl63, Jl64, Jl68, Jl69, Jl96, Jl97, Jl98, Jl99, Jl100, Jl122, Jl149, Jl150, Jl165, Jl255, Jl511, Jl512, Jl600, Jl610, Jl940, Jl968, Jl999, Jl1134, Jl1152, Jl2048, Jl4608, Jl9999, Jl99999, Jl100000, Jl147456, Jl12345, Jl1103515245, Jl100000000, Jlm1, Jlm2, J_add, J_sub, J_mul, J_lt, J_le, J_eq, J_ite, J_cl, ri_j, wi_j, b2i_z, b2i_o, b2i_zo, Int.cast_ofNat_Int, Int.natCast_zero, Int.natCast_one, if_true, if_false, ite_self, Int.le_refl, J_bit, J_or, J_neg, J_oN, Int.reduceEq, Int.reduceLT, Int.reduceLE, Int.reduceNeg, Int.reduceAdd, Int.reduceSub, Int.reduceMul, Int.reduceToNat, J_shl, J_shr, V_ite, true_or, or_true, nz_j, J_div, J_rem, Option.bind_some, Option.toList_some, Option.toList_none, List.cons_append, List.nil_append]
            rw [if_neg (by omega)]
          · have hg' := (hg.resolve_left c2) (S 4 i) (by omega) (by omega)
            rw [← c0] at hg'
            refine ⟨(some (.int (J (rdS S (I (n + 14)) (I (n + 15)) i u))), some (.int (J (g (S 4 i))))), ?_⟩
            have ec : ctS S L T (I (n + 14)) (I (n + 15)) i u = T 3 u * chS L (g (S 4 i)) u (T 2 u) (poS S i u) := by
              unfold ctS cgS
              rw [if_pos c0, if_neg c1, if_neg c2, ← c0, hg']
            rw [b23_28, ← eu _ (by rw [ec])]
            simp (disch := omega) only [b23_39, b23_52, b23_58, b23_62, b23_70, b23_80, b23_99, b23_134, b23_137, b23_140, gO_N hN, gR_N3 hN, gR_N4 hN, gR_N5 hN, gR_N6 hN, al_N14 hN, al_N15 hN, al_N16 hN, al_N17 hN, rd_N14 hN, rd_N15 hN, rd_N16 hN, rd_N17 hN, gP_N hN hl, wr_N14 hN hl, wr_N15 hN hl, wr_N16 hN hl, wr_N17 hN hl, gR_k h0, gR_k h1, gR_k h2, gO_S hS.1, gR_S2 hS.1, gR_S4 hS.1, gR_S5 hS.1, gR_S6 hS.1, gR_S7 hS.1, gR_S8 hS.1, gR_S9 hS.1, gR_S10 hS.1, gR_S11 hS.1, gR_S12 hS.1, gR_S14 hS.1, gR_S15 hS.1, al_S1 hS.1, al_S2 hS.1, al_S3 hS.1, al_S4 hS.1, al_S5 hS.1, al_S6 hS.1, al_S7 hS.1, al_S8 hS.1, al_S9 hS.1, al_S10 hS.1, al_S11 hS.1, al_S12 hS.1, rd_S1 hS.1, rd_S2 hS.1, rd_S3 hS.1, rd_S4 hS.1, rd_S5 hS.1, rd_S6 hS.1, rd_S7 hS.1, rd_S8 hS.1, rd_S9 hS.1, rd_S10 hS.1, rd_S11 hS.1, rd_S12 hS.1, vS_0 hS, vS_1 hS, vS_2 hS, vS_3 hS, vS_4 hS, vS_5 hS, vS_6 hS, vS_7 hS, vS_8 hS, vS_9 hS, vS_10 hS, vS_11 hS, vS_12 hS, gO_L hL.1, gR_L5 hL.1, al_L1 hL.1, rd_L1 hL.1, vL_0 hL, vL_1 hL, gO_T hT.1, gR_T3 hT.1, gR_T4 hT.1, gR_T5 hT.1, gR_T6 hT.1, al_T1 hT.1, al_T2 hT.1, al_T3 hT.1, al_T4 hT.1, rd_T1 hT.1, rd_T2 hT.1, rd_T3 hT.1, rd_T4 hT.1, vT_0 hT, vT_1 hT, vT_2 hT, vT_3 hT, vT_4 hT, rd_sp, po_sp, ch_sp, c0, e14, e15, c1, c2, u3_sA, e16, e17, dsX_i, Jl0, Jl1, Jl2, Jl3, Jl4, Jl5, Jl6, Jl7, Jl8, Jl9, Jl10, Jl11, Jl12, Jl13, Jl14, Jl15, Jl16, Jl17, Jl18, Jl19, Jl20, Jl22, Jl24, Jl28, Jl30, Jl31, Jl32, Jl35, Jl36, Jl37, Jl38, Jl39, Jl40, Jl48, Jl57, Jl59, Jl60, Jl61, Jl63, Jl64, Jl68, Jl69, Jl96, Jl97, Jl98, Jl99, Jl100, Jl122, Jl149, Jl150, Jl165, Jl255, Jl511, Jl512, Jl600, Jl610, Jl940, Jl968, Jl999, Jl1134, Jl1152, Jl2048, Jl4608, Jl9999, Jl99999, Jl100000, Jl147456, Jl12345, Jl1103515245, Jl100000000, Jlm1, Jlm2, J_add, J_sub, J_mul, J_lt, J_le, J_eq, J_ite, J_cl, ri_j, wi_j, b2i_z, b2i_o, b2i_zo, Int.cast_ofNat_Int, Int.natCast_zero, Int.natCast_one, if_true, if_false, ite_self, Int.le_refl, J_bit, J_or, J_neg, J_oN, Int.reduceEq, Int.reduceLT, Int.reduceLE, Int.reduceNeg, Int.reduceAdd, Int.reduceSub, Int.reduceMul, Int.reduceToNat, J_shl, J_shr, V_ite, true_or, or_true, nz_j, J_div, J_rem, Option.bind_some, Option.toList_some, Option.toList_none, List.cons_append, List.nil_append]
            rw [if_neg (by omega)]
      · refine ⟨(some (.int (J (-1))), q.2), ?_⟩
        have ec : ctS S L T (I (n + 14)) (I (n + 15)) i u = 0 := by
          unfold ctS
          rw [if_neg c0]
        have e1 := eu (I (n + 16) i) (by rw [ec, Int.add_zero])
        rw [show (I (n + 16) i) = dsX S L T (I (n + 14)) (I (n + 15)) (I (n + 16)) u i i from dsX_i.symm, u1_id] at e1
        rw [← e16, sA_id] at e1
        rw [b23_28, ← e1]
        simp (disch := omega) only [b23_39, b23_61, b23_62, b23_140, gO_N hN, gR_N3 hN, gR_N4 hN, gR_N5 hN, gR_N6 hN, al_N14 hN, al_N15 hN, al_N16 hN, al_N17 hN, rd_N14 hN, rd_N15 hN, rd_N16 hN, rd_N17 hN, gP_N hN hl, wr_N14 hN hl, wr_N15 hN hl, wr_N16 hN hl, wr_N17 hN hl, gR_k h0, gR_k h1, gR_k h2, gO_S hS.1, gR_S2 hS.1, gR_S4 hS.1, gR_S5 hS.1, gR_S6 hS.1, gR_S7 hS.1, gR_S8 hS.1, gR_S9 hS.1, gR_S10 hS.1, gR_S11 hS.1, gR_S12 hS.1, gR_S14 hS.1, gR_S15 hS.1, al_S1 hS.1, al_S2 hS.1, al_S3 hS.1, al_S4 hS.1, al_S5 hS.1, al_S6 hS.1, al_S7 hS.1, al_S8 hS.1, al_S9 hS.1, al_S10 hS.1, al_S11 hS.1, al_S12 hS.1, rd_S1 hS.1, rd_S2 hS.1, rd_S3 hS.1, rd_S4 hS.1, rd_S5 hS.1, rd_S6 hS.1, rd_S7 hS.1, rd_S8 hS.1, rd_S9 hS.1, rd_S10 hS.1, rd_S11 hS.1, rd_S12 hS.1, vS_0 hS, vS_1 hS, vS_2 hS, vS_3 hS, vS_4 hS, vS_5 hS, vS_6 hS, vS_7 hS, vS_8 hS, vS_9 hS, vS_10 hS, vS_11 hS, vS_12 hS, gO_L hL.1, gR_L5 hL.1, al_L1 hL.1, rd_L1 hL.1, vL_0 hL, vL_1 hL, gO_T hT.1, gR_T3 hT.1, gR_T4 hT.1, gR_T5 hT.1, gR_T6 hT.1, al_T1 hT.1, al_T2 hT.1, al_T3 hT.1, al_T4 hT.1, rd_T1 hT.1, rd_T2 hT.1, rd_T3 hT.1, rd_T4 hT.1, vT_0 hT, vT_1 hT, vT_2 hT, vT_3 hT, vT_4 hT, c0, Jl0, Jl1, Jl2, Jl3, Jl4, Jl5, Jl6, Jl7, Jl8, Jl9, Jl10, Jl11, Jl12, Jl13, Jl14, Jl15, Jl16, Jl17, Jl18, Jl19, Jl20, Jl22, Jl24, Jl28, Jl30, Jl31, Jl32, Jl35, Jl36, Jl37, Jl38, Jl39, Jl40, Jl48, Jl57, Jl59, Jl60, Jl61, Jl63, Jl64, Jl68, Jl69, Jl96, Jl97, Jl98, Jl99, Jl100, Jl122, Jl149, Jl150, Jl165, Jl255, Jl511, Jl512, Jl600, Jl610, Jl940, Jl968, Jl999, Jl1134, Jl1152, Jl2048, Jl4608, Jl9999, Jl99999, Jl100000, Jl147456, Jl12345, Jl1103515245, Jl100000000, Jlm1, Jlm2, J_add, J_sub, J_mul, J_lt, J_le, J_eq, J_ite, J_cl, ri_j, wi_j, b2i_z, b2i_o, b2i_zo, Int.cast_ofNat_Int, Int.natCast_zero, Int.natCast_one, if_true, if_false, ite_self, Int.le_refl, J_bit, J_or, J_neg, J_oN, Int.reduceEq, Int.reduceLT, Int.reduceLE, Int.reduceNeg, Int.reduceAdd, Int.reduceSub, Int.reduceMul, Int.reduceToNat, J_shl, J_shr, V_ite, true_or, or_true, nz_j, J_div, J_rem, Option.bind_some, Option.toList_some, Option.toList_none, List.cons_append, List.nil_append]
        rw [if_neg (by omega)]) (by omega) (none, none)
    rw [dsX_0] at LL
    rw [show sA (sA I (n + 17) g) (n + 16) (I (n + 16)) = sA I (n + 17) g from by
      rw [show I (n + 16) = sA I (n + 17) g (n + 16) from (sA_n (by omega)).symm, sA_id]] at LL
    simp (disch := omega) only [b23_26, Jl0, Jl1, Jl2, Jl3, Jl4, Jl5, Jl6, Jl7, Jl8, Jl9, Jl10, Jl11, Jl12, Jl13, Jl14, Jl15, Jl16, Jl17, Jl18, Jl19, Jl20, Jl22, Jl24, Jl28, Jl30, Jl31, Jl32, Jl35, Jl36, Jl37, Jl38, Jl39, Jl40, Jl48, Jl57, Jl59, Jl60, Jl61, Jl63, Jl64, Jl68, Jl69, Jl96, Jl97, Jl98, Jl99, Jl100, Jl122, Jl149, Jl150, Jl165, Jl255, Jl511, Jl512, Jl600, Jl610, Jl940, Jl968, Jl999, Jl1134, Jl1152, Jl2048, Jl4608, Jl9999, Jl99999, Jl100000, Jl147456, Jl12345, Jl1103515245, Jl100000000, Jlm1, Jlm2, J_add, J_sub, J_mul, J_lt, J_le, J_eq, J_ite, J_cl, ri_j, wi_j, b2i_z, b2i_o, b2i_zo, Int.cast_ofNat_Int, Int.natCast_zero, Int.natCast_one, if_true, if_false, ite_self, Int.le_refl, J_bit, J_or, J_neg, J_oN, Int.reduceEq, Int.reduceLT, Int.reduceLE, Int.reduceNeg, Int.reduceAdd, Int.reduceSub, Int.reduceMul, Int.reduceToNat, J_shl, J_shr, V_ite, true_or, or_true, nz_j, J_div, J_rem, Option.bind_some, Option.toList_some, Option.toList_none, List.cons_append, List.nil_append]
    refine LL.trans ?_
    have hC := NC_sA (f := dsX S L T (I (n + 14)) (I (n + 15)) (I (n + 16)) u (S 0 3)) (NC_sA (f := g) hC (c := n + 17) (by omega)) (c := n + 16) (by omega)
    obtain ⟨hN, h0, h1, h2, hS, hV, hL, hLV, hT, hTV, hA, hD, hI⟩ := id hC
    rw [b23_28]
    simp (disch := omega) only [b23_146, gO_N hN, gR_N3 hN, gR_N4 hN, gR_N5 hN, gR_N6 hN, al_N14 hN, al_N15 hN, al_N16 hN, al_N17 hN, rd_N14 hN, rd_N15 hN, rd_N16 hN, rd_N17 hN, gP_N hN hl, wr_N14 hN hl, wr_N15 hN hl, wr_N16 hN hl, wr_N17 hN hl, gR_k h0, gR_k h1, gR_k h2, gO_S hS.1, gR_S2 hS.1, gR_S4 hS.1, gR_S5 hS.1, gR_S6 hS.1, gR_S7 hS.1, gR_S8 hS.1, gR_S9 hS.1, gR_S10 hS.1, gR_S11 hS.1, gR_S12 hS.1, gR_S14 hS.1, gR_S15 hS.1, al_S1 hS.1, al_S2 hS.1, al_S3 hS.1, al_S4 hS.1, al_S5 hS.1, al_S6 hS.1, al_S7 hS.1, al_S8 hS.1, al_S9 hS.1, al_S10 hS.1, al_S11 hS.1, al_S12 hS.1, rd_S1 hS.1, rd_S2 hS.1, rd_S3 hS.1, rd_S4 hS.1, rd_S5 hS.1, rd_S6 hS.1, rd_S7 hS.1, rd_S8 hS.1, rd_S9 hS.1, rd_S10 hS.1, rd_S11 hS.1, rd_S12 hS.1, vS_0 hS, vS_1 hS, vS_2 hS, vS_3 hS, vS_4 hS, vS_5 hS, vS_6 hS, vS_7 hS, vS_8 hS, vS_9 hS, vS_10 hS, vS_11 hS, vS_12 hS, gO_L hL.1, gR_L5 hL.1, al_L1 hL.1, rd_L1 hL.1, vL_0 hL, vL_1 hL, gO_T hT.1, gR_T3 hT.1, gR_T4 hT.1, gR_T5 hT.1, gR_T6 hT.1, al_T1 hT.1, al_T2 hT.1, al_T3 hT.1, al_T4 hT.1, rd_T1 hT.1, rd_T2 hT.1, rd_T3 hT.1, rd_T4 hT.1, vT_0 hT, vT_1 hT, vT_2 hT, vT_3 hT, vT_4 hT, Jl0, Jl1, Jl2, Jl3, Jl4, Jl5, Jl6, Jl7, Jl8, Jl9, Jl10, Jl11, Jl12, Jl13, Jl14, Jl15, Jl16, Jl17, Jl18, Jl19, Jl20, Jl22, Jl24, Jl28, Jl30, Jl31, Jl32, Jl35, Jl36, Jl37, Jl38, Jl39, Jl40, Jl48, Jl57, Jl59, Jl60, Jl61, Jl63, Jl64, Jl68, Jl69, Jl96, Jl97, Jl98, Jl99, Jl100, Jl122, Jl149, Jl150, Jl165, Jl255, Jl511, Jl512, Jl600, Jl610, Jl940, Jl968, Jl999, Jl1134, Jl1152, Jl2048, Jl4608, Jl9999, Jl99999, Jl100000, Jl147456, Jl12345, Jl1103515245, Jl100000000, Jlm1, Jlm2, J_add, J_sub, J_mul, J_lt, J_le, J_eq, J_ite, J_cl, ri_j, wi_j, b2i_z, b2i_o, b2i_zo, Int.cast_ofNat_Int, Int.natCast_zero, Int.natCast_one, if_true, if_false, ite_self, Int.le_refl, J_bit, J_or, J_neg, J_oN, Int.reduceEq, Int.reduceLT, Int.reduceLE, Int.reduceNeg, Int.reduceAdd, Int.reduceSub, Int.reduceMul, Int.reduceToNat, J_shl, J_shr, V_ite, true_or, or_true, nz_j, J_div, J_rem, Option.bind_some, Option.toList_some, Option.toList_none, List.cons_append, List.nil_append]
  by_cases c2 : L 0 4 = 0
  · refine ⟨I (n + 17), ?_⟩
    have m := main (I (n + 17)) (Or.inl c2)
    rw [sA_id] at m ⊢
    rw [← m]
    obtain ⟨hN, h0, h1, h2, hS, hV, hL, hLV, hT, hTV, hA, hD, hI⟩ := id hC
    simp (disch := omega) only [b23_0, e23, gO_N hN, gR_N3 hN, gR_N4 hN, gR_N5 hN, gR_N6 hN, al_N14 hN, al_N15 hN, al_N16 hN, al_N17 hN, rd_N14 hN, rd_N15 hN, rd_N16 hN, rd_N17 hN, gP_N hN hl, wr_N14 hN hl, wr_N15 hN hl, wr_N16 hN hl, wr_N17 hN hl, gR_k h0, gR_k h1, gR_k h2, gO_S hS.1, gR_S2 hS.1, gR_S4 hS.1, gR_S5 hS.1, gR_S6 hS.1, gR_S7 hS.1, gR_S8 hS.1, gR_S9 hS.1, gR_S10 hS.1, gR_S11 hS.1, gR_S12 hS.1, gR_S14 hS.1, gR_S15 hS.1, al_S1 hS.1, al_S2 hS.1, al_S3 hS.1, al_S4 hS.1, al_S5 hS.1, al_S6 hS.1, al_S7 hS.1, al_S8 hS.1, al_S9 hS.1, al_S10 hS.1, al_S11 hS.1, al_S12 hS.1, rd_S1 hS.1, rd_S2 hS.1, rd_S3 hS.1, rd_S4 hS.1, rd_S5 hS.1, rd_S6 hS.1, rd_S7 hS.1, rd_S8 hS.1, rd_S9 hS.1, rd_S10 hS.1, rd_S11 hS.1, rd_S12 hS.1, vS_0 hS, vS_1 hS, vS_2 hS, vS_3 hS, vS_4 hS, vS_5 hS, vS_6 hS, vS_7 hS, vS_8 hS, vS_9 hS, vS_10 hS, vS_11 hS, vS_12 hS, gO_L hL.1, gR_L5 hL.1, al_L1 hL.1, rd_L1 hL.1, vL_0 hL, vL_1 hL, gO_T hT.1, gR_T3 hT.1, gR_T4 hT.1, gR_T5 hT.1, gR_T6 hT.1, al_T1 hT.1, al_T2 hT.1, al_T3 hT.1, al_T4 hT.1, rd_T1 hT.1, rd_T2 hT.1, rd_T3 hT.1, rd_T4 hT.1, vT_0 hT, vT_1 hT, vT_2 hT, vT_3 hT, vT_4 hT, c2, Jl0, Jl1, Jl2, Jl3, Jl4, Jl5, Jl6, Jl7, Jl8, Jl9, Jl10, Jl11, Jl12, Jl13, Jl14, Jl15, Jl16, Jl17, Jl18, Jl19, Jl20, Jl22, Jl24, Jl28, Jl30, Jl31, Jl32, Jl35, Jl36, Jl37, Jl38, Jl39, Jl40, Jl48, Jl57, Jl59, Jl60, Jl61, Jl63, Jl64, Jl68, Jl69, Jl96, Jl97, Jl98, Jl99, Jl100, Jl122, Jl149, Jl150, Jl165, Jl255, Jl511, Jl512, Jl600, Jl610, Jl940, Jl968, Jl999, Jl1134, Jl1152, Jl2048, Jl4608, Jl9999, Jl99999, Jl100000, Jl147456, Jl12345, Jl1103515245, Jl100000000, Jlm1, Jlm2, J_add, J_sub, J_mul, J_lt, J_le, J_eq, J_ite, J_cl, ri_j, wi_j, b2i_z, b2i_o, b2i_zo, Int.cast_ofNat_Int, Int.natCast_zero, Int.natCast_one, if_true, if_false, ite_self, Int.le_refl, J_bit, J_or, J_neg, J_oN, Int.reduceEq, Int.reduceLT, Int.reduceLE, Int.reduceNeg, Int.reduceAdd, Int.reduceSub, Int.reduceMul, Int.reduceToNat, J_shl, J_shr, V_ite, true_or, or_true, nz_j, J_div, J_rem, Option.bind_some, Option.toList_some, Option.toList_none, List.cons_append, List.nil_append]
  · refine ⟨bdX S (I (n + 14)) (I (n + 15)) (I (n + 17)) u (T 2 u) (S 0 3), ?_⟩
    have m := main (bdX S (I (n + 14)) (I (n + 15)) (I (n + 17)) u (T 2 u) (S 0 3)) (Or.inr (fun j h1 h2 => if_pos ⟨h1, h2⟩))
    rw [← m]
    obtain ⟨hN, h0, h1, h2, hS, hV, hL, hLV, hT, hTV, hA, hD, hI⟩ := id hC
    simp (disch := omega) only [b23_0, b23_20, e23, gO_N hN, gR_N3 hN, gR_N4 hN, gR_N5 hN, gR_N6 hN, al_N14 hN, al_N15 hN, al_N16 hN, al_N17 hN, rd_N14 hN, rd_N15 hN, rd_N16 hN, rd_N17 hN, gP_N hN hl, wr_N14 hN hl, wr_N15 hN hl, wr_N16 hN hl, wr_N17 hN hl, gR_k h0, gR_k h1, gR_k h2, gO_S hS.1, gR_S2 hS.1, gR_S4 hS.1, gR_S5 hS.1, gR_S6 hS.1, gR_S7 hS.1, gR_S8 hS.1, gR_S9 hS.1, gR_S10 hS.1, gR_S11 hS.1, gR_S12 hS.1, gR_S14 hS.1, gR_S15 hS.1, al_S1 hS.1, al_S2 hS.1, al_S3 hS.1, al_S4 hS.1, al_S5 hS.1, al_S6 hS.1, al_S7 hS.1, al_S8 hS.1, al_S9 hS.1, al_S10 hS.1, al_S11 hS.1, al_S12 hS.1, rd_S1 hS.1, rd_S2 hS.1, rd_S3 hS.1, rd_S4 hS.1, rd_S5 hS.1, rd_S6 hS.1, rd_S7 hS.1, rd_S8 hS.1, rd_S9 hS.1, rd_S10 hS.1, rd_S11 hS.1, rd_S12 hS.1, vS_0 hS, vS_1 hS, vS_2 hS, vS_3 hS, vS_4 hS, vS_5 hS, vS_6 hS, vS_7 hS, vS_8 hS, vS_9 hS, vS_10 hS, vS_11 hS, vS_12 hS, gO_L hL.1, gR_L5 hL.1, al_L1 hL.1, rd_L1 hL.1, vL_0 hL, vL_1 hL, gO_T hT.1, gR_T3 hT.1, gR_T4 hT.1, gR_T5 hT.1, gR_T6 hT.1, al_T1 hT.1, al_T2 hT.1, al_T3 hT.1, al_T4 hT.1, rd_T1 hT.1, rd_T2 hT.1, rd_T3 hT.1, rd_T4 hT.1, vT_0 hT, vT_1 hT, vT_2 hT, vT_3 hT, vT_4 hT, c2, bd_sp, Jl0, Jl1, Jl2, Jl3, Jl4, Jl5, Jl6, Jl7, Jl8, Jl9, Jl10, Jl11, Jl12, Jl13, Jl14, Jl15, Jl16, Jl17, Jl18, Jl19, Jl20, Jl22, Jl24, Jl28, Jl30, Jl31, Jl32, Jl35, Jl36, Jl37, Jl38, Jl39, Jl40, Jl48, Jl57, Jl59, Jl60, Jl61, Jl63, Jl64, Jl68, Jl69, Jl96, Jl97, Jl98, Jl99, Jl100, Jl122, Jl149, Jl150, Jl165, Jl255, Jl511, Jl512, Jl600, Jl610, Jl940, Jl968, Jl999, Jl1134, Jl1152, Jl2048, Jl4608, Jl9999, Jl99999, Jl100000, Jl147456, Jl12345, Jl1103515245, Jl100000000, Jlm1, Jlm2, J_add, J_sub, J_mul, J_lt, J_le, J_eq, J_ite, J_cl, ri_j, wi_j, b2i_z, b2i_o, b2i_zo, Int.cast_ofNat_Int, Int.natCast_zero, Int.natCast_one, if_true, if_false, ite_self, Int.le_refl, J_bit, J_or, J_neg, J_oN, Int.reduceEq, Int.reduceLT, Int.reduceLE, Int.reduceNeg, Int.reduceAdd, Int.reduceSub, Int.reduceMul, Int.reduceToNat, J_shl, J_shr, V_ite, true_or, or_true, nz_j, J_div, J_rem, Option.bind_some, Option.toList_some, Option.toList_none, List.cons_append, List.nil_append]
end NIGHT
