/-! NIGHTS of the class: all dues; a night opened -/
theorem sA_comm {I : Nat → Int → Int} {a b : Nat} {f g : Int → Int} (h : ¬ a = b) : sA (sA I a f) b g = sA (sA I b g) a f := by
  funext c
  unfold sA
  by_cases h1 : c = b
  · subst h1
    rw [if_pos rfl, if_neg (fun q => h q.symm), if_pos rfl]
  · rw [if_neg h1, if_neg h1]
theorem sA3 {I : Nat → Int → Int} {a b : Nat} {f g f' g' : Int → Int} (h : ¬ a = b) : sA (sA (sA (sA I a f) b g) a f') b g' = sA (sA I a f') b g' := by
  rw [sA_comm (I := I) (f := f) (g := g) h, sA_sA, sA_comm (I := I) (f := g) (g := f') (fun q => h q.symm), sA_sA]
def dzX (S L T : Nat → Int → Int) (D si f : Int → Int) (i : Int) : Int → Int := fun k => if 0 ≤ k ∧ k < 9 then (if k < S 0 3 then dzS S L T D si k i else 0) else f k
def duX (S L T : Nat → Int → Int) (D si f : Int → Int) (i : Int) : Int → Int := fun k => if 0 ≤ k ∧ k < i then dueS S L T D si k else dzX S L T D si f (T 0 7) k
theorem dzX_s {S L T : Nat → Int → Int} {D si f : Int → Int} {i : Int} (hi : 0 ≤ i) (hS : S 0 3 ≤ 9) : dsX S L T D si (dzX S L T D si f i) (T 4 i) (S 0 3) = dzX S L T D si f (i + 1) := by
  funext k
  unfold dsX dzX dzS
  rw [sm_s _ hi]
  grind
theorem dzX_0 {S L T : Nat → Int → Int} {D si f : Int → Int} : dzX S L T D si f 0 = flr f 0 9 0 := by
  funext k
  unfold dzX flr dzS
  rw [sm_0]
  grind
theorem ctS_b {S L T : Nat → Int → Int} (hV : SV S) (hLV : LV L) (hTV : TV T) {D si : Int → Int} (hD : DV D) (hI : SiV si) {k u : Int} (hk : 0 ≤ k ∧ k < S 0 3) (hu : 0 ≤ u ∧ u < 36) : 0 ≤ ctS S L T D si k u ∧ ctS S L T D si k u ≤ 40000 := by
  have h1 := cgS_b hV hLV hD hI hk hu
  have h2 := hTV.2.1 u hu.1 hu.2
  unfold ctS
  split
  · have h3 := mul_b (a := T 3 u) (b := cgS S L D si k u) (A := 40) (B := 1000) (by omega) (by omega)
    have h4 : 0 ≤ T 3 u * cgS S L D si k u := Int.mul_nonneg (by omega) (by omega)
    omega
  · omega
theorem dzS_b {S L T : Nat → Int → Int} (hV : SV S) (hLV : LV L) (hTV : TV T) {D si : Int → Int} (hD : DV D) (hI : SiV si) {k i : Int} (hk : 0 ≤ k ∧ k < S 0 3) (hi : 0 ≤ i ∧ i ≤ T 0 7) : 0 ≤ dzS S L T D si k i ∧ dzS S L T D si k i ≤ 1440000 := by
  have h0 := hTV.1
  have := sm_b (fun j => ctS S L T D si k (T 4 j)) (n := i) (A := 0) (B := 40000) hi.1 (fun j h1 h2 => ctS_b hV hLV hTV hD hI hk (hTV.2.2 j h1 (by omega)).1)
  unfold dzS
  omega
theorem dueS_b {S L T : Nat → Int → Int} (hV : SV S) (hLV : LV L) (hTV : TV T) {D si : Int → Int} (hD : DV D) (hI : SiV si) {k : Int} (hk : 0 ≤ k ∧ k < S 0 3) : 0 ≤ dueS S L T D si k ∧ dueS S L T D si k ≤ 999 := by
  have h0 := hTV.1
  have h1 := dzS_b hV hLV hTV hD hI hk (i := T 0 7) (by omega)
  have h2 := hLV.1
  unfold dueS
  split <;> omega
theorem duX_u {S L T : Nat → Int → Int} {D si f : Int → Int} {i : Int} (hi : 0 ≤ i) : u1 (duX S L T D si f i) i (dueS S L T D si i) = duX S L T D si f (i + 1) := by
  funext k
  unfold u1 duX
  grind
section NIGHT
variable {E : (Nat → Value) × (Nat → Nat)} {lo d n s l t : Nat} {μ : rM} {I S L T : Nat → Int → Int} {k u x y h w r : Int} {p : Bool} {f : Int → Int}
theorem rk_sp (hd : 4 ≤ d) (hC : NC μ I n s l t S L T) (hl : lo ≤ n) : ∃ g, cl E lo d 22 [.ref n] (mj μ I) = some (none, mj μ (sA (sA I (n + 17) g) (n + 16) (duX S L T (I (n + 14)) (I (n + 15)) (I (n + 16)) (S 0 3)))) := by
  obtain ⟨d, rfl⟩ : ∃ e, d = e + 1 := ⟨d - 1, by omega⟩
  have hN := hC.1
  have hV := hC.2.2.2.2.2.1
  have hLV := hC.2.2.2.2.2.2.2.1
  have hTV := hC.2.2.2.2.2.2.2.2.2.1
  have hD0 := hC.2.2.2.2.2.2.2.2.2.2.2.1
  have hI0 := hC.2.2.2.2.2.2.2.2.2.2.2.2
  have w0 := hV.1
  have w1 := hTV.1
  have w2 := hLV.1
  have hf := fill_sp (E := E) (d := d) (lo := lo) (I := I) (v := 0) (by omega) (hN.2 (5, 16, 0, 9) (by decide)).2 (by dsimp only; omega) (by decide)
  obtain ⟨g, LL⟩ := loopq (fun i g => ex PG E lo d 22 10 [some (.ref n), some (.int (J (i)))] [] (mj μ (sA (sA I (n + 17) g) (n + 16) (dzX S L T (I (n + 14)) (I (n + 15)) (I (n + 16)) i)))) (a := 0) (n := T 0 7) (fun i g f1 f2 => by
    have hC := NC_sA (f := dzX S L T (I (n + 14)) (I (n + 15)) (I (n + 16)) i) (NC_sA (f := g) hC (c := n + 17) (by omega)) (c := n + 16) (by omega)
    obtain ⟨w3, w4⟩ := hTV.2.2 i f1 f2
    obtain ⟨g', hr⟩ := rs_sp (E := E) (d := d) (lo := lo) (by omega) hC hl w3 w4
    refine ⟨g', ?_⟩
    rw [sA_n (by omega), sA_n (by omega), sA_n (by omega), sA_n (by omega), sA_s, dzX_s f1 (by omega), sA3 (by omega)] at hr
    obtain ⟨hN, h0, h1, h2, hS, hV, hL, hLV, hT, hTV, hA, hD, hI⟩ := id hC
    rw [b22_10]
    simp (disch := omega) only [b22_21, b22_34, gO_N hN, gR_N3 hN, gR_N4 hN, gR_N5 hN, gR_N6 hN, al_N14 hN, al_N15 hN, al_N16 hN, al_N17 hN, rd_N14 hN, rd_N15 hN, rd_N16 hN, rd_N17 hN, gP_N hN hl, wr_N14 hN hl, wr_N15 hN hl, wr_N16 hN hl, wr_N17 hN hl, gR_k h0, gR_k h1, gR_k h2, gO_S hS.1, gR_S2 hS.1, gR_S4 hS.1, gR_S5 hS.1, gR_S6 hS.1, gR_S7 hS.1, gR_S8 hS.1, gR_S9 hS.1, gR_S10 hS.1, gR_S11 hS.1, gR_S12 hS.1, gR_S14 hS.1, gR_S15 hS.1, al_S1 hS.1, al_S2 hS.1, al_S3 hS.1, al_S4 hS.1, al_S5 hS.1, al_S6 hS.1, al_S7 hS.1, al_S8 hS.1, al_S9 hS.1, al_S10 hS.1, al_S11 hS.1, al_S12 hS.1, rd_S1 hS.1, rd_S2 hS.1, rd_S3 hS.1, rd_S4 hS.1, rd_S5 hS.1, rd_S6 hS.1, rd_S7 hS.1, rd_S8 hS.1, rd_S9 hS.1, rd_S10 hS.1, rd_S11 hS.1, rd_S12 hS.1, vS_0 hS, vS_1 hS, vS_2 hS, vS_3 hS, vS_4 hS, vS_5 hS, vS_6 hS, vS_7 hS, vS_8 hS, vS_9 hS, vS_10 hS, vS_11 hS, vS_12 hS, gO_L hL.1, gR_L5 hL.1, al_L1 hL.1, rd_L1 hL.1, vL_0 hL, vL_1 hL, gO_T hT.1, gR_T3 hT.1, gR_T4 hT.1, gR_T5 hT.1, gR_T6 hT.1, al_T1 hT.1, al_T2 hT.1, al_T3 hT.1, al_T4 hT.1, rd_T1 hT.1, rd_T2 hT.1, rd_T3 hT.1, rd_T4 hT.1, vT_0 hT, vT_1 hT, vT_2 hT, vT_3 hT, vT_4 hT, hr, Jl0, Jl1, Jl2, Jl3, Jl4, Jl5, Jl6, Jl7, Jl8, Jl9, Jl10, Jl11, Jl12, Jl13, Jl14, Jl15, Jl16, Jl17, Jl18, Jl19, Jl20, Jl22, Jl24, Jl28, Jl30, Jl31, Jl32, Jl35, Jl36, Jl37, Jl38, Jl39, Jl40, Jl48, Jl57, Jl59, Jl60, Jl61, Jl63, Jl64, Jl68, Jl69, Jl96, Jl97, Jl98, Jl99, Jl100, Jl122, Jl149, Jl150, Jl165, Jl255, Jl511, Jl512, Jl600, Jl610, Jl940, Jl968, Jl999, Jl1134, Jl1152, Jl2048, Jl4608, Jl9999, Jl99999, Jl100000, Jl147456, Jl12345, Jl1103515245, Jl100000000, Jlm1, Jlm2, J_add, J_sub, J_mul, J_lt, J_le, J_eq, J_ite, J_cl, ri_j, wi_j, b2i_z, b2i_o, b2i_zo, Int.cast_ofNat_Int, Int.natCast_zero, Int.natCast_one, if_true, if_false, ite_self, Int.le_refl, J_bit, J_or, J_neg, J_oN, Int.reduceEq, Int.reduceLT, Int.reduceLE, Int.reduceNeg, Int.reduceAdd, Int.reduceSub, Int.reduceMul, Int.reduceToNat, J_shl, J_shr, V_ite, true_or, or_true, nz_j, J_div, J_rem, Option.bind_some, Option.toList_some, Option.toList_none, List.cons_append, List.nil_append]
    rw [if_neg (by omega)]) (by omega) (I (n + 17))
  refine ⟨g, ?_⟩
  rw [sA_id, dzX_0] at LL
  have L2 := tele (fun i => ex PG E lo d 22 42 [some (.ref n), some (.int (J (i)))] [] (mj μ (sA (sA I (n + 17) g) (n + 16) (duX S L T (I (n + 14)) (I (n + 15)) (I (n + 16)) i)))) (a := 0) (n := S 0 3) (fun i f1 f2 => by
    have hC := NC_sA (f := duX S L T (I (n + 14)) (I (n + 15)) (I (n + 16)) i) (NC_sA (f := g) hC (c := n + 17) (by omega)) (c := n + 16) (by omega)
    obtain ⟨hN, h0, h1, h2, hS, hV, hL, hLV, hT, hTV, hA, hD, hI⟩ := id hC
    have w5 := dzS_b hV hLV hTV hD0 hI0 (k := i) (i := T 0 7) (by omega) (by omega)
    have e1 : duX S L T (I (n + 14)) (I (n + 15)) (I (n + 16)) i i = dzS S L T (I (n + 14)) (I (n + 15)) i (T 0 7) := by
      unfold duX dzX
      rw [if_neg (by omega), if_pos (by omega), if_pos f2]
    rw [b22_42, ← duX_u f1]
    unfold dueS
    simp (disch := omega) only [b22_53, b22_75, gO_N hN, gR_N3 hN, gR_N4 hN, gR_N5 hN, gR_N6 hN, al_N14 hN, al_N15 hN, al_N16 hN, al_N17 hN, rd_N14 hN, rd_N15 hN, rd_N16 hN, rd_N17 hN, gP_N hN hl, wr_N14 hN hl, wr_N15 hN hl, wr_N16 hN hl, wr_N17 hN hl, gR_k h0, gR_k h1, gR_k h2, gO_S hS.1, gR_S2 hS.1, gR_S4 hS.1, gR_S5 hS.1, gR_S6 hS.1, gR_S7 hS.1, gR_S8 hS.1, gR_S9 hS.1, gR_S10 hS.1, gR_S11 hS.1, gR_S12 hS.1, gR_S14 hS.1, gR_S15 hS.1, al_S1 hS.1, al_S2 hS.1, al_S3 hS.1, al_S4 hS.1, al_S5 hS.1, al_S6 hS.1, al_S7 hS.1, al_S8 hS.1, al_S9 hS.1, al_S10 hS.1, al_S11 hS.1, al_S12 hS.1, rd_S1 hS.1, rd_S2 hS.1, rd_S3 hS.1, rd_S4 hS.1, rd_S5 hS.1, rd_S6 hS.1, rd_S7 hS.1, rd_S8 hS.1, rd_S9 hS.1, rd_S10 hS.1, rd_S11 hS.1, rd_S12 hS.1, vS_0 hS, vS_1 hS, vS_2 hS, vS_3 hS, vS_4 hS, vS_5 hS, vS_6 hS, vS_7 hS, vS_8 hS, vS_9 hS, vS_10 hS, vS_11 hS, vS_12 hS, gO_L hL.1, gR_L5 hL.1, al_L1 hL.1, rd_L1 hL.1, vL_0 hL, vL_1 hL, gO_T hT.1, gR_T3 hT.1, gR_T4 hT.1, gR_T5 hT.1, gR_T6 hT.1, al_T1 hT.1, al_T2 hT.1, al_T3 hT.1, al_T4 hT.1, rd_T1 hT.1, rd_T2 hT.1, rd_T3 hT.1, rd_T4 hT.1, vT_0 hT, vT_1 hT, vT_2 hT, vT_3 hT, vT_4 hT, u3_sA, sA_s, sA_sA, e1, Jl0, Jl1, Jl2, Jl3, Jl4, Jl5, Jl6, Jl7, Jl8, Jl9, Jl10, Jl11, Jl12, Jl13, Jl14, Jl15, Jl16, Jl17, Jl18, Jl19, Jl20, Jl22, Jl24, Jl28, Jl30, Jl31, Jl32, Jl35, Jl36, Jl37, Jl38, Jl39, Jl40, Jl48, Jl57, Jl59, Jl60, Jl61, Jl63, Jl64, Jl68, Jl69, Jl96, Jl97, Jl98, Jl99, Jl100, Jl122, Jl149, Jl150, Jl165, Jl255, Jl511, Jl512, Jl600, Jl610, Jl940, Jl968, Jl999, Jl1134, Jl1152, Jl2048, Jl4608, Jl9999, Jl99999, Jl100000, Jl147456, Jl12345, Jl1103515245, Jl100000000, Jlm1, Jlm2, J_add, J_sub, J_mul, J_lt, J_le, J_eq, J_ite, J_cl, ri_j, wi_j, b2i_z, b2i_o, b2i_zo, Int.cast_ofNat_Int, Int.natCast_zero, Int.natCast_one, if_true, if_false, ite_self, Int.le_refl, J_bit, J_or, J_neg, J_oN, Int.reduceEq, Int.reduceLT, Int.reduceLE, Int.reduceNeg, Int.reduceAdd, Int.reduceSub, Int.reduceMul, Int.reduceToNat, J_shl, J_shr, V_ite, true_or, or_true, nz_j, J_div, J_rem, Option.bind_some, Option.toList_some, Option.toList_none, List.cons_append, List.nil_append]
    rw [if_neg (by omega)]) (by omega)
  simp (disch := omega) only [b22_0, b22_8, e22, gO_N hN, gR_N3 hN, gR_N4 hN, gR_N5 hN, gR_N6 hN, al_N14 hN, al_N15 hN, al_N16 hN, al_N17 hN, rd_N14 hN, rd_N15 hN, rd_N16 hN, rd_N17 hN, gP_N hN hl, wr_N14 hN hl, wr_N15 hN hl, wr_N16 hN hl, wr_N17 hN hl, hf, Jl0, Jl1, Jl2, Jl3, Jl4, Jl5, Jl6, Jl7, Jl8, Jl9, Jl10, Jl11, Jl12, Jl13, Jl14, Jl15, Jl16, Jl17, Jl18, Jl19, Jl20, Jl22, Jl24, Jl28, Jl30, Jl31, Jl32, Jl35, Jl36, Jl37, Jl38, Jl39, Jl40, Jl48, Jl57, Jl59, Jl60, Jl61, Jl63, Jl64, Jl68, Jl69, Jl96, Jl97, Jl98, Jl99, Jl100, Jl122, Jl149, Jl150, Jl165, Jl255, Jl511, Jl512, Jl600, Jl610, Jl940, Jl968, Jl999, Jl1134, Jl1152, Jl2048, Jl4608, Jl9999, Jl99999, Jl100000, Jl147456, Jl12345, Jl1103515245, Jl100000000, Jlm1, Jlm2, J_add, J_sub, J_mul, J_lt, J_le, J_eq, J_ite, J_cl, ri_j, wi_j, b2i_z, b2i_o, b2i_zo, Int.cast_ofNat_Int, Int.natCast_zero, Int.natCast_one, if_true, if_false, ite_self, Int.le_refl, J_bit, J_or, J_neg, J_oN, Int.reduceEq, Int.reduceLT, Int.reduceLE, Int.reduceNeg, Int.reduceAdd, Int.reduceSub, Int.reduceMul, Int.reduceToNat, J_shl, J_shr, V_ite, true_or, or_true, nz_j, J_div, J_rem, Option.bind_some, Option.toList_some, Option.toList_none, List.cons_append, List.nil_append]
  refine LL.trans ?_
  rw [b22_10]
  have hC1 := NC_sA (f := dzX S L T (I (n + 14)) (I (n + 15)) (I (n + 16)) (T 0 7)) (NC_sA (f := g) hC (c := n + 17) (by omega)) (c := n + 16) (by omega)
  have hC2 := NC_sA (f := duX S L T (I (n + 14)) (I (n + 15)) (I (n + 16)) (S 0 3)) (NC_sA (f := g) hC (c := n + 17) (by omega)) (c := n + 16) (by omega)
  have e0 : duX S L T (I (n + 14)) (I (n + 15)) (I (n + 16)) 0 = dzX S L T (I (n + 14)) (I (n + 15)) (I (n + 16)) (T 0 7) := by
    funext k
    unfold duX
    rw [if_neg (by omega)]
  rw [e0] at L2
  clear hN
  obtain ⟨hN, h0, h1, h2, hS, hV, hL, hLV, hT, hTV, hA, hD, hI⟩ := id hC1
  simp (disch := omega) only [b22_40, gO_N hN, gR_N3 hN, gR_N4 hN, gR_N5 hN, gR_N6 hN, al_N14 hN, al_N15 hN, al_N16 hN, al_N17 hN, rd_N14 hN, rd_N15 hN, rd_N16 hN, rd_N17 hN, gP_N hN hl, wr_N14 hN hl, wr_N15 hN hl, wr_N16 hN hl, wr_N17 hN hl, gR_k h0, gR_k h1, gR_k h2, gO_S hS.1, gR_S2 hS.1, gR_S4 hS.1, gR_S5 hS.1, gR_S6 hS.1, gR_S7 hS.1, gR_S8 hS.1, gR_S9 hS.1, gR_S10 hS.1, gR_S11 hS.1, gR_S12 hS.1, gR_S14 hS.1, gR_S15 hS.1, al_S1 hS.1, al_S2 hS.1, al_S3 hS.1, al_S4 hS.1, al_S5 hS.1, al_S6 hS.1, al_S7 hS.1, al_S8 hS.1, al_S9 hS.1, al_S10 hS.1, al_S11 hS.1, al_S12 hS.1, rd_S1 hS.1, rd_S2 hS.1, rd_S3 hS.1, rd_S4 hS.1, rd_S5 hS.1, rd_S6 hS.1, rd_S7 hS.1, rd_S8 hS.1, rd_S9 hS.1, rd_S10 hS.1, rd_S11 hS.1, rd_S12 hS.1, vS_0 hS, vS_1 hS, vS_2 hS, vS_3 hS, vS_4 hS, vS_5 hS, vS_6 hS, vS_7 hS, vS_8 hS, vS_9 hS, vS_10 hS, vS_11 hS, vS_12 hS, gO_L hL.1, gR_L5 hL.1, al_L1 hL.1, rd_L1 hL.1, vL_0 hL, vL_1 hL, gO_T hT.1, gR_T3 hT.1, gR_T4 hT.1, gR_T5 hT.1, gR_T6 hT.1, al_T1 hT.1, al_T2 hT.1, al_T3 hT.1, al_T4 hT.1, rd_T1 hT.1, rd_T2 hT.1, rd_T3 hT.1, rd_T4 hT.1, vT_0 hT, vT_1 hT, vT_2 hT, vT_3 hT, vT_4 hT, Jl0, Jl1, Jl2, Jl3, Jl4, Jl5, Jl6, Jl7, Jl8, Jl9, Jl10, Jl11, Jl12, Jl13, Jl14, Jl15, Jl16, Jl17, Jl18, Jl19, Jl20, Jl22, Jl24, Jl28, Jl30, Jl31, Jl32, Jl35, Jl36, Jl37, Jl38, Jl39, Jl40, Jl48, Jl57, Jl59, Jl60, Jl61, Jl63, Jl64, Jl68, Jl69, Jl96, Jl97, Jl98, Jl99, Jl100, Jl122, Jl149, Jl150, Jl165, Jl255, Jl511, Jl512, Jl600, Jl610, Jl940, Jl968, Jl999, Jl1134, Jl1152, Jl2048, Jl4608, Jl9999, Jl99999, Jl100000, Jl147456, Jl12345, Jl1103515245, Jl100000000, Jlm1, Jlm2, J_add, J_sub, J_mul, J_lt, J_le, J_eq, J_ite, J_cl, ri_j, wi_j, b2i_z, b2i_o, b2i_zo, Int.cast_ofNat_Int, Int.natCast_zero, Int.natCast_one, if_true, if_false, ite_self, Int.le_refl, J_bit, J_or, J_neg, J_oN, Int.reduceEq, Int.reduceLT, Int.reduceLE, Int.reduceNeg, Int.reduceAdd, Int.reduceSub, Int.reduceMul, Int.reduceToNat, J_shl, J_shr, V_ite, true_or, or_true, nz_j, J_div, J_rem, Option.bind_some, Option.toList_some, Option.toList_none, List.cons_append, List.nil_append]
  refine L2.trans ?_
  rw [b22_42]
  obtain ⟨hN, h0, h1, h2, hS, hV, hL, hLV, hT, hTV, hA, hD, hI⟩ := id hC2
  simp (disch := omega) only [b22_81, gO_N hN, gR_N3 hN, gR_N4 hN, gR_N5 hN, gR_N6 hN, al_N14 hN, al_N15 hN, al_N16 hN, al_N17 hN, rd_N14 hN, rd_N15 hN, rd_N16 hN, rd_N17 hN, gP_N hN hl, wr_N14 hN hl, wr_N15 hN hl, wr_N16 hN hl, wr_N17 hN hl, gR_k h0, gR_k h1, gR_k h2, gO_S hS.1, gR_S2 hS.1, gR_S4 hS.1, gR_S5 hS.1, gR_S6 hS.1, gR_S7 hS.1, gR_S8 hS.1, gR_S9 hS.1, gR_S10 hS.1, gR_S11 hS.1, gR_S12 hS.1, gR_S14 hS.1, gR_S15 hS.1, al_S1 hS.1, al_S2 hS.1, al_S3 hS.1, al_S4 hS.1, al_S5 hS.1, al_S6 hS.1, al_S7 hS.1, al_S8 hS.1, al_S9 hS.1, al_S10 hS.1, al_S11 hS.1, al_S12 hS.1, rd_S1 hS.1, rd_S2 hS.1, rd_S3 hS.1, rd_S4 hS.1, rd_S5 hS.1, rd_S6 hS.1, rd_S7 hS.1, rd_S8 hS.1, rd_S9 hS.1, rd_S10 hS.1, rd_S11 hS.1, rd_S12 hS.1, vS_0 hS, vS_1 hS, vS_2 hS, vS_3 hS, vS_4 hS, vS_5 hS, vS_6 hS, vS_7 hS, vS_8 hS, vS_9 hS, vS_10 hS, vS_11 hS, vS_12 hS, gO_L hL.1, gR_L5 hL.1, al_L1 hL.1, rd_L1 hL.1, vL_0 hL, vL_1 hL, gO_T hT.1, gR_T3 hT.1, gR_T4 hT.1, gR_T5 hT.1, gR_T6 hT.1, al_T1 hT.1, al_T2 hT.1, al_T3 hT.1, al_T4 hT.1, rd_T1 hT.1, rd_T2 hT.1, rd_T3 hT.1, rd_T4 hT.1, vT_0 hT, vT_1 hT, vT_2 hT, vT_3 hT, vT_4 hT, Jl0, Jl1, Jl2, Jl3, Jl4, Jl5, Jl6, Jl7, Jl8, Jl9, Jl10, Jl11, Jl12, Jl13, Jl14, Jl15, Jl16, Jl17, Jl18, Jl19, Jl20, Jl22, Jl24, Jl28, Jl30, Jl31, Jl32, Jl35, Jl36, Jl37, Jl38, Jl39, Jl40, Jl48, Jl57, Jl59, Jl60, Jl61, Jl63, Jl64, Jl68, Jl69, Jl96, Jl97, Jl98, Jl99, Jl100, Jl122, Jl149, Jl150, Jl165, Jl255, Jl511, Jl512, Jl600, Jl610, Jl940, Jl968, Jl999, Jl1134, Jl1152, Jl2048, Jl4608, Jl9999, Jl99999, Jl100000, Jl147456, Jl12345, Jl1103515245, Jl100000000, Jlm1, Jlm2, J_add, J_sub, J_mul, J_lt, J_le, J_eq, J_ite, J_cl, ri_j, wi_j, b2i_z, b2i_o, b2i_zo, Int.cast_ofNat_Int, Int.natCast_zero, Int.natCast_one, if_true, if_false, ite_self, Int.le_refl, J_bit, J_or, J_neg, J_oN, Int.reduceEq, Int.reduceLT, Int.reduceLE, Int.reduceNeg, Int.reduceAdd, Int.reduceSub, Int.reduceMul, Int.reduceToNat, J_shl, J_shr, V_ite, true_or, or_true, nz_j, J_div, J_rem, Option.bind_some, Option.toList_some, Option.toList_none, List.cons_append, List.nil_append]
/-- the night's three -/
def opn (μ : rM) (n s l t : Nat) : rM := wr (wr (wr μ n 0 (some s)) n 1 (some l)) n 2 (some t)
def siX (S : Nat → Int → Int) (f : Int → Int) (i : Int) : Int → Int := fun k => if 0 ≤ k ∧ k < i then siS S k else f k
def dpX (S T : Nat → Int → Int) (D : Int → Int) (i : Int) : Int → Int := fun j => if 0 ≤ j ∧ j < i * 36 then dpS S T (j / 36) (j % 36) else D j
theorem siS_b {S : Nat → Int → Int} (hV : SV S) {k : Int} : -1 ≤ siS S k ∧ siS S k < S 0 3 := by
  have := hV.1
  unfold siS
  rcases fi_sp (fun j => decide (S 10 j = k ∧ S 2 k = 3)) (n := S 0 3) (by omega) with h | h <;> omega
theorem siX_V {S : Nat → Int → Int} (hV : SV S) {f : Int → Int} (hf : SiV f) {i : Int} : SiV (siX S f i) := by
  intro k h1 h2
  have := hV.1
  have := siS_b hV (k := k)
  have := hf k h1 h2
  unfold siX
  split <;> omega
theorem dpX_V {S T : Nat → Int → Int} (hV : SV S) {D : Int → Int} (hD : DV D) {i : Int} (hi : i ≤ S 0 3) : DV (dpX S T D i) := by
  intro j h1 h2
  unfold dpX
  split
  · exact dpS_b hV (by omega) (by omega)
  · exact hD j h1 h2
theorem dpX_s {S T : Nat → Int → Int} {D : Int → Int} {i : Int} (hi : 0 ≤ i) : ldR S T i (dpX S T D i) = dpX S T D (i + 1) := by
  funext j
  unfold ldR dpX
  by_cases h1 : i * 36 ≤ j ∧ j < i * 36 + 36
  · rw [if_pos h1, if_pos (by omega)]
    congr 1 <;> omega
  · rw [if_neg h1]
    by_cases h2 : 0 ≤ j ∧ j < i * 36
    · rw [if_pos h2, if_pos (by omega)]
    · rw [if_neg h2, if_neg (by omega)]
theorem op_sp (hd : 5 ≤ d) (hC : NC (opn μ n s l t) I n s l t S L T) (hl : lo ≤ n) : ∃ g, cl E lo d 11 [.ref n, .ref s, .ref l, .ref t] (mj μ I) = some (none, mj (opn μ n s l t) (sA (sA (sA (sA I (n + 15) (siX S (I (n + 15)) (S 0 3))) (n + 14) (dpX S T (I (n + 14)) (S 0 3))) (n + 17) g) (n + 16) (duX S L T (dpX S T (I (n + 14)) (S 0 3)) (siX S (I (n + 15)) (S 0 3)) (I (n + 16)) (S 0 3)))) := by
  obtain ⟨d, rfl⟩ : ∃ e, d = e + 1 := ⟨d - 1, by omega⟩
  have hk : rk μ n = some (.inl 2) := hC.1.1
  have hV := hC.2.2.2.2.2.1
  have hD0 := hC.2.2.2.2.2.2.2.2.2.2.2.1
  have hI0 := hC.2.2.2.2.2.2.2.2.2.2.2.2
  have w0 := hV.1
  have hCi : ∀ i, i ≤ S 0 3 → NC (opn μ n s l t) (sA (sA I (n + 15) (siX S (I (n + 15)) i)) (n + 14) (dpX S T (I (n + 14)) i)) n s l t S L T := fun i hi => NC_14 (NC_15 hC (siX_V hV hI0)) (dpX_V hV hD0 hi)
  have LL := tele (fun i => ex PG E lo d 11 18 [some (.ref n), some (.ref s), some (.ref l), some (.ref t), some (.int (J (i)))] [] (mj (opn μ n s l t) (sA (sA I (n + 15) (siX S (I (n + 15)) i)) (n + 14) (dpX S T (I (n + 14)) i)))) (a := 0) (n := S 0 3) (fun i f1 f2 => by
    have hC1 := hCi i (by omega)
    have hC2 : NC (opn μ n s l t) (sA (sA I (n + 15) (siX S (I (n + 15)) (i + 1))) (n + 14) (dpX S T (I (n + 14)) i)) n s l t S L T := NC_14 (NC_15 hC (siX_V hV hI0)) (dpX_V hV hD0 (by omega))
    have hld := ld_sp (E := E) (d := d) (lo := lo) (by omega) hC2 hl (k := i) (by omega)
    rw [sA_s, dpX_s f1, sA_sA] at hld
    have hN2 := hC2.1
    have w3 := siS_b hV (k := i)
    have e1 : u1 (siX S (I (n + 15)) i) i (siS S i) = siX S (I (n + 15)) (i + 1) := by
      funext k
      unfold u1 siX
      grind
    obtain ⟨hN, h0, h1, h2, hS, hV, hL, hLV, hT, hTV, hA, hD, hI⟩ := id hC1
    have e2 : u3 (sA (sA I (n + 15) (siX S (I (n + 15)) i)) (n + 14) (dpX S T (I (n + 14)) i)) (n + 15) i (siS S i) = sA (sA I (n + 15) (siX S (I (n + 15)) (i + 1))) (n + 14) (dpX S T (I (n + 14)) i) := by
      rw [u3_sA, sA_n (by omega), sA_s, e1, sA_comm (by omega), sA_sA]
    rw [b11_18]
    simp (disch := omega) only [b11_30, b11_45, b11_46, b11_52, gO_N hN, gR_N3 hN, gR_N4 hN, gR_N5 hN, gR_N6 hN, al_N14 hN, al_N15 hN, al_N16 hN, al_N17 hN, rd_N14 hN, rd_N15 hN, rd_N16 hN, rd_N17 hN, gP_N hN hl, wr_N14 hN hl, wr_N15 hN hl, wr_N16 hN hl, wr_N17 hN hl, gR_k h0, gR_k h1, gR_k h2, gO_S hS.1, gR_S2 hS.1, gR_S4 hS.1, gR_S5 hS.1, gR_S6 hS.1, gR_S7 hS.1, gR_S8 hS.1, gR_S9 hS.1, gR_S10 hS.1, gR_S11 hS.1, gR_S12 hS.1, gR_S14 hS.1, gR_S15 hS.1, al_S1 hS.1, al_S2 hS.1, al_S3 hS.1, al_S4 hS.1, al_S5 hS.1, al_S6 hS.1, al_S7 hS.1, al_S8 hS.1, al_S9 hS.1, al_S10 hS.1, al_S11 hS.1, al_S12 hS.1, rd_S1 hS.1, rd_S2 hS.1, rd_S3 hS.1, rd_S4 hS.1, rd_S5 hS.1, rd_S6 hS.1, rd_S7 hS.1, rd_S8 hS.1, rd_S9 hS.1, rd_S10 hS.1, rd_S11 hS.1, rd_S12 hS.1, vS_0 hS, vS_1 hS, vS_2 hS, vS_3 hS, vS_4 hS, vS_5 hS, vS_6 hS, vS_7 hS, vS_8 hS, vS_9 hS, vS_10 hS, vS_11 hS, vS_12 hS, gO_L hL.1, gR_L5 hL.1, al_L1 hL.1, rd_L1 hL.1, vL_0 hL, vL_1 hL, gO_T hT.1, gR_T3 hT.1, gR_T4 hT.1, gR_T5 hT.1, gR_T6 hT.1, al_T1 hT.1, al_T2 hT.1, al_T3 hT.1, al_T4 hT.1, rd_T1 hT.1, rd_T2 hT.1, rd_T3 hT.1, rd_T4 hT.1, vT_0 hT, vT_1 hT, vT_2 hT, vT_3 hT, vT_4 hT, si_sp, e2, hld, Jl0, Jl1, Jl2, Jl3, Jl4, Jl5, Jl6, Jl7, Jl8, Jl9, Jl10, Jl11, Jl12, Jl13, Jl14, Jl15, Jl16, Jl17, Jl18, Jl19, Jl20, Jl22, Jl24, Jl28, Jl30, Jl31, Jl32, Jl35, Jl36, Jl37, Jl38, Jl39, Jl40, Jl48, Jl57, Jl59, Jl60, Jl61, Jl63, Jl64, Jl68, Jl69, Jl96, Jl97, Jl98, Jl99, Jl100, Jl122, Jl149, Jl150, Jl165, Jl255, Jl511, Jl512, Jl600, Jl610, Jl940, Jl968, Jl999, Jl1134, Jl1152, Jl2048, Jl4608, Jl9999, Jl99999, Jl100000, Jl147456, Jl12345, Jl1103515245, Jl100000000, Jlm1, Jlm2, J_add, J_sub, J_mul, J_lt, J_le, J_eq, J_ite, J_cl, ri_j, wi_j, b2i_z, b2i_o, b2i_zo, Int.cast_ofNat_Int, Int.natCast_zero, Int.natCast_one, if_true, if_false, ite_self, Int.le_refl, J_bit, J_or, J_neg, J_oN, Int.reduceEq, Int.reduceLT, Int.reduceLE, Int.reduceNeg, Int.reduceAdd, Int.reduceSub, Int.reduceMul, Int.reduceToNat, J_shl, J_shr, V_ite, true_or, or_true, nz_j, J_div, J_rem, Option.bind_some, Option.toList_some, Option.toList_none, List.cons_append, List.nil_append]
    rw [if_neg (by omega)]) (by omega)
  have hCn := hCi (S 0 3) (Int.le_refl _)
  obtain ⟨g, hr⟩ := rk_sp (E := E) (d := d) (lo := lo) (by omega) hCn hl
  refine ⟨g, ?_⟩
  rw [sA_s, sA_n (by omega), sA_s, sA_n (by omega), sA_n (by omega)] at hr
  have z1 : siX S (I (n + 15)) 0 = I (n + 15) := by
    funext k
    unfold siX
    rw [if_neg (by omega)]
  have z2 : dpX S T (I (n + 14)) 0 = I (n + 14) := by
    funext k
    unfold dpX
    rw [if_neg (by omega)]
  rw [z1, z2, sA_id, sA_id] at LL
  rw [e11, b11_0, gP_k hk hl, wr_j, b11_5, gP_k (μ := wr μ n 0 (some s)) hk hl, wr_j, b11_10, gP_k (μ := wr (wr μ n 0 (some s)) n 1 (some l)) hk hl, wr_j, b11_15]
  refine LL.trans ?_
  obtain ⟨hN, h0, h1, h2, hS, hV, hL, hLV, hT, hTV, hA, hD, hI⟩ := id hCn
  rw [b11_18]
  simp (disch := omega) only [b11_58, b11_62, gO_N hN, gR_N3 hN, gR_N4 hN, gR_N5 hN, gR_N6 hN, al_N14 hN, al_N15 hN, al_N16 hN, al_N17 hN, rd_N14 hN, rd_N15 hN, rd_N16 hN, rd_N17 hN, gP_N hN hl, wr_N14 hN hl, wr_N15 hN hl, wr_N16 hN hl, wr_N17 hN hl, gR_k h0, gR_k h1, gR_k h2, gO_S hS.1, gR_S2 hS.1, gR_S4 hS.1, gR_S5 hS.1, gR_S6 hS.1, gR_S7 hS.1, gR_S8 hS.1, gR_S9 hS.1, gR_S10 hS.1, gR_S11 hS.1, gR_S12 hS.1, gR_S14 hS.1, gR_S15 hS.1, al_S1 hS.1, al_S2 hS.1, al_S3 hS.1, al_S4 hS.1, al_S5 hS.1, al_S6 hS.1, al_S7 hS.1, al_S8 hS.1, al_S9 hS.1, al_S10 hS.1, al_S11 hS.1, al_S12 hS.1, rd_S1 hS.1, rd_S2 hS.1, rd_S3 hS.1, rd_S4 hS.1, rd_S5 hS.1, rd_S6 hS.1, rd_S7 hS.1, rd_S8 hS.1, rd_S9 hS.1, rd_S10 hS.1, rd_S11 hS.1, rd_S12 hS.1, vS_0 hS, vS_1 hS, vS_2 hS, vS_3 hS, vS_4 hS, vS_5 hS, vS_6 hS, vS_7 hS, vS_8 hS, vS_9 hS, vS_10 hS, vS_11 hS, vS_12 hS, gO_L hL.1, gR_L5 hL.1, al_L1 hL.1, rd_L1 hL.1, vL_0 hL, vL_1 hL, gO_T hT.1, gR_T3 hT.1, gR_T4 hT.1, gR_T5 hT.1, gR_T6 hT.1, al_T1 hT.1, al_T2 hT.1, al_T3 hT.1, al_T4 hT.1, rd_T1 hT.1, rd_T2 hT.1, rd_T3 hT.1, rd_T4 hT.1, vT_0 hT, vT_1 hT, vT_2 hT, vT_3 hT, vT_4 hT, hr, Jl0, Jl1, Jl2, Jl3, Jl4, Jl5, Jl6, Jl7, Jl8, Jl9, Jl10, Jl11, Jl12, Jl13, Jl14, Jl15, Jl16, Jl17, Jl18, Jl19, Jl20, Jl22, Jl24, Jl28, Jl30, Jl31, Jl32, Jl35, Jl36, Jl37, Jl38, Jl39, Jl40, Jl48, Jl57, Jl59, Jl60, Jl61, Jl63, Jl64, Jl68, Jl69, Jl96, Jl97, Jl98, Jl99, Jl100, Jl122, Jl149, Jl150, Jl165, Jl255, Jl511, Jl512, Jl600, Jl610, Jl940, Jl968, Jl999, Jl1134, Jl1152, Jl2048, Jl4608, Jl9999, Jl99999, Jl100000, Jl147456, Jl12345, Jl1103515245, Jl100000000, Jlm1, Jlm2, J_add, J_sub, J_mul, J_lt, J_le, J_eq, J_ite, J_cl, ri_j, wi_j, b2i_z, b2i_o, b2i_zo, Int.cast_ofNat_Int, Int.natCast_zero, Int.natCast_one, if_true, if_false, ite_self, Int.le_refl, J_bit, J_or, J_neg, J_oN, Int.reduceEq, Int.reduceLT, Int.reduceLE, Int.reduceNeg, Int.reduceAdd, Int.reduceSub, Int.reduceMul, Int.reduceToNat, J_shl, J_shr, V_ite, true_or, or_true, nz_j, J_div, J_rem, Option.bind_some, Option.toList_some, Option.toList_none, List.cons_append, List.nil_append]
end NIGHT
