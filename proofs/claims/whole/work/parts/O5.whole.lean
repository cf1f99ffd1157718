/-! NEW OBJECTS: the class and the reference whole -/
section CTOR
variable {E : (Nat → Value) × (Nat → Nat)} {lo d z : Nat} {μ : rM} {I : Nat → Int → Int}
theorem cI6_e {w : Int} (hw : 0 ≤ w ∧ w < 9) : cI6 I z z 0 = 0 ∧ cI6 I z z 1 = 999 ∧ cI6 I z z 2 = 0 ∧ cI6 I z z 3 = 0 ∧ cI6 I z (z + 1) w = 1 := by
  unfold cI6 laC
  refine ⟨?_, ?_, ?_, ?_, ?_⟩
  · simp (disch := omega) only [sA_n, u3_n, u3_s]
  · simp (disch := omega) only [sA_n, u3_n, u3_s]
  · simp (disch := omega) only [sA_n, u3_n, u3_s]
  · simp (disch := omega) only [sA_n, u3_n, u3_s]
  · rw [sA_s]
    unfold flr
    rw [if_pos hw]
theorem cI6_e0 : cI6 I z z 0 = 0 := (cI6_e (w := 0) (by omega)).1
theorem cI6_e1 : cI6 I z z 1 = 999 := (cI6_e (w := 0) (by omega)).2.1
theorem cI6_e2 : cI6 I z z 2 = 0 := (cI6_e (w := 0) (by omega)).2.2.1
theorem cI6_e3 : cI6 I z z 3 = 0 := (cI6_e (w := 0) (by omega)).2.2.2.1
theorem cI6_e5 {a : Nat} {w : Int} (ha : a = z + 1) (hw : 0 ≤ w ∧ w < 9) : cI6 I z a w = 1 := by rw [ha]; exact (cI6_e hw).2.2.2.2
theorem cI99_0 : cI99 I z z 7 = 0 := cI99_v.1
theorem cI99_1 {a : Nat} {u : Int} (ha : a = z + 1) (hu : 0 ≤ u ∧ u < 36) : cI99 I z a u = -1 := by rw [ha]; exact (cI99_v.2 u hu.1 hu.2).1
theorem cI99_2 {a : Nat} {u : Int} (ha : a = z + 2) (hu : 0 ≤ u ∧ u < 36) : cI99 I z a u = -1 := by rw [ha]; exact (cI99_v.2 u hu.1 hu.2).2.1
theorem cI99_3 {a : Nat} {u : Int} (ha : a = z + 3) (hu : 0 ≤ u ∧ u < 36) : cI99 I z a u = 0 := by rw [ha]; exact (cI99_v.2 u hu.1 hu.2).2.2
/-- kinds and links as the constructors leave them -/
def kMr : List rKd := [.inr (0, 2048), .inr (0, 64), .inr (0, 9), .inr (0, 9), .inr (0, 147456), .inr (0, 147456), .inr (0, 9), .inr (0, 9), .inr (0, 9), .inr (0, 9), .inr (0, 9), .inr (0, 9), .inr (0, 9), .inr (0, 9), .inr (0, 9), .inr (0, 9), .inr (0, 9), .inr (0, 9), .inr (0, 9), .inr (0, 9), .inr (0, 9), .inr (0, 9), .inr (0, 165), .inr (2, 3), .inr (0, 4608), .inl 12]
def rMr : List (Nat × Nat × Nat) := [(0, 52, 25), (0, 51, 24), (0, 50, 23), (0, 47, 22), (0, 46, 21), (0, 45, 20), (0, 43, 19), (0, 42, 18), (0, 41, 17), (0, 38, 16), (0, 37, 15), (0, 36, 14), (0, 35, 13), (0, 34, 12), (0, 33, 11), (0, 32, 10), (0, 22, 9), (0, 17, 8), (0, 16, 7), (0, 15, 6), (0, 14, 5), (0, 13, 4), (0, 11, 3), (0, 1, 2), (0, 0, 1)]
def ckK (n : Nat) (L : List rKd) : Bool := kdC.all fun q => Nat.blt q.1 n && decide (L[n - 1 - q.1]? = some (kdV q.2))
def ckR (n : Nat) (R : List (Nat × Nat × Nat)) : Bool := rfC.all fun q => Nat.blt q.1 n && decide (lk3 R q.1 q.2.1 = some q.2.2)
def ckA (L : List rKd) (R : List (Nat × Nat × Nat)) : Bool := blR 146 R && ckK 172 (kMr ++ L) && ckR 172 (shR 146 rMr ++ R) && decide (lk3 R 122 8 = some 141) && decide (lk3 R 122 9 = some 142) && decide (lk3 R 48 0 = none) && decide (lk3 R 48 1 = none) && decide (lk3 R 48 2 = none)
theorem con121 (hd : 10 ≤ d) (hz : rz μ = lo) : ∃ L R I', cl E lo d 121 [.ref lo] (nw (mj μ I) (.inl 11) 9) = some (none, mj (bkl μ lo 146 L R 8199) I') ∧ ckA L R = true ∧ (∀ a, a < lo → I' a = I a) ∧ (I' (lo + 1) 1 = 0 ∧ I' (lo + 1) 2 = 0 ∧ I' (lo + 1) 3 = -1) ∧ (I' (lo + 1 + 1) = Z0 ∧ I' (lo + 1 + 2) = Z0 ∧ I' (lo + 1 + 20) 4 = 0 ∧ I' (lo + 1 + 40) 4 = 0) ∧ LV (rws I' (lo + 72)) ∧ SIL I' lo ∧ I' (lo + 84 + 14) = Z0 ∧ I' (lo + 84 + 15) = Z0 := by
  obtain ⟨d, rfl⟩ : ∃ e, d = e + 6 := ⟨d - 6, by omega⟩
  obtain ⟨I1, c1, k1, k2, k3, k4, k5, k6⟩ := con94 (E := E) (lo := lo) (d := d + 5) (μ := bkl μ lo 1 [.inl 11] [] 9) (z := lo + 1) (I := sA I lo Z0) (by omega) (by omega) rfl
  rw [mg_bkl (L' := kDd) (m := 47) rfl rfl] at c1
  obtain ⟨X, hX⟩ : ∃ X, cl E lo (d + 6) 121 [.ref (lo + 0)] (nw (mj μ I) (.inl 11) 9) = X := ⟨_, rfl⟩
  have h := hX
  rw [nw_0 hz] at h
  have l0 : lk3 (shR 1 rDd ++ []) 1 0 = some 2 := by decide
  simp only [e121, b121_0, rz_bkl, c1, Option.bind_some, Option.toList_some, Option.toList_none, List.cons_append, List.nil_append] at h
  simp (maxSteps := 1000000) (disch := first | omega | decide +kernel) only [b121_12, b121_15, b121_23, b121_38, e62, b62_0, b62_12, b62_20, b62_23, b62_31, b62_34, b62_42, b62_45, b62_53, b62_56, b62_61, b62_66, b62_71, b62_76, b62_85, b62_88, e50, b50_0, b50_9, b50_14, b50_19, b50_24, b50_29, b50_34, gP_bkl, gO_bkl, gR_bkl, gR_some, lk3_c, ↓reduceIte, lk3_sk, l0, nw_bkl, wr_bkl, rz_bkl, con77m, con6m, con58m, con0m, con99m, Nat.reduceAdd, Nat.reduceEqDiff, and_true, true_and, and_false, false_and, and_self, Option.map_some, Jl0, Jl1, Jl2, Jl3, Jl4, Jl5, Jl6, Jl7, Jl8, Jl9, Jl10, Jl11, Jl12, Jl13, Jl14, Jl15, Jl16, Jl17, Jl18, Jl19, Jl20, Jl22, Jl24, Jl28, Jl30, Jl31, Jl32, Jl35, Jl36, Jl37, Jl38, Jl39, Jl40, Jl48, Jl57, Jl59, Jl60, Jl61, Jl63, Jl64, Jl68, Jl69, Jl96, Jl97, Jl98, Jl99, Jl100, Jl122, Jl149, Jl150, Jl165, Jl255, Jl511, Jl512, Jl600, Jl610, Jl940, Jl968, Jl999, Jl1134, Jl1152, Jl2048, Jl4608, Jl9999, Jl99999, Jl100000, Jl147456, Jl12345, Jl1103515245, Jl100000000, Jlm1, Jlm2, J_add, J_sub, J_mul, J_lt, J_le, J_eq, J_ite, J_cl, ri_j, wi_j, b2i_z, b2i_o, b2i_zo, Int.cast_ofNat_Int, Int.natCast_zero, Int.natCast_one, if_true, if_false, ite_self, Int.le_refl, J_bit, J_or, J_neg, J_oN, Int.reduceEq, Int.reduceLT, Int.reduceLE, Int.reduceNeg, Int.reduceAdd, Int.reduceSub, Int.reduceMul, Int.reduceToNat, J_shl, J_shr, V_ite, true_or, or_true, nz_j, J_div, J_rem, Option.bind_some, Option.toList_some, Option.toList_none, List.cons_append, List.nil_append] at h
  simp (maxSteps := 1000000) (disch := first | omega | decide +kernel) only [b121_41, b121_49, gP_bkl, gO_bkl, gR_bkl, gR_some, lk3_c, ↓reduceIte, lk3_sk, l0, nw_bkl, wr_bkl, rz_bkl, con77m, con6m, con58m, con0m, con99m, Nat.reduceAdd, Nat.reduceEqDiff, and_true, true_and, and_false, false_and, and_self, Option.map_some, Jl0, Jl1, Jl2, Jl3, Jl4, Jl5, Jl6, Jl7, Jl8, Jl9, Jl10, Jl11, Jl12, Jl13, Jl14, Jl15, Jl16, Jl17, Jl18, Jl19, Jl20, Jl22, Jl24, Jl28, Jl30, Jl31, Jl32, Jl35, Jl36, Jl37, Jl38, Jl39, Jl40, Jl48, Jl57, Jl59, Jl60, Jl61, Jl63, Jl64, Jl68, Jl69, Jl96, Jl97, Jl98, Jl99, Jl100, Jl122, Jl149, Jl150, Jl165, Jl255, Jl511, Jl512, Jl600, Jl610, Jl940, Jl968, Jl999, Jl1134, Jl1152, Jl2048, Jl4608, Jl9999, Jl99999, Jl100000, Jl147456, Jl12345, Jl1103515245, Jl100000000, Jlm1, Jlm2, J_add, J_sub, J_mul, J_lt, J_le, J_eq, J_ite, J_cl, ri_j, wi_j, b2i_z, b2i_o, b2i_zo, Int.cast_ofNat_Int, Int.natCast_zero, Int.natCast_one, if_true, if_false, ite_self, Int.le_refl, J_bit, J_or, J_neg, J_oN, Int.reduceEq, Int.reduceLT, Int.reduceLE, Int.reduceNeg, Int.reduceAdd, Int.reduceSub, Int.reduceMul, Int.reduceToNat, J_shl, J_shr, V_ite, true_or, or_true, nz_j, J_div, J_rem, Option.bind_some, Option.toList_some, Option.toList_none, List.cons_append, List.nil_append] at h
  simp (maxSteps := 1000000) (disch := first | omega | decide +kernel) only [b121_52, b121_60, b121_63, b121_71, gP_bkl, gO_bkl, gR_bkl, gR_some, lk3_c, ↓reduceIte, lk3_sk, l0, nw_bkl, wr_bkl, rz_bkl, con77m, con6m, con58m, con0m, con99m, Nat.reduceAdd, Nat.reduceEqDiff, and_true, true_and, and_false, false_and, and_self, Option.map_some, Jl0, Jl1, Jl2, Jl3, Jl4, Jl5, Jl6, Jl7, Jl8, Jl9, Jl10, Jl11, Jl12, Jl13, Jl14, Jl15, Jl16, Jl17, Jl18, Jl19, Jl20, Jl22, Jl24, Jl28, Jl30, Jl31, Jl32, Jl35, Jl36, Jl37, Jl38, Jl39, Jl40, Jl48, Jl57, Jl59, Jl60, Jl61, Jl63, Jl64, Jl68, Jl69, Jl96, Jl97, Jl98, Jl99, Jl100, Jl122, Jl149, Jl150, Jl165, Jl255, Jl511, Jl512, Jl600, Jl610, Jl940, Jl968, Jl999, Jl1134, Jl1152, Jl2048, Jl4608, Jl9999, Jl99999, Jl100000, Jl147456, Jl12345, Jl1103515245, Jl100000000, Jlm1, Jlm2, J_add, J_sub, J_mul, J_lt, J_le, J_eq, J_ite, J_cl, ri_j, wi_j, b2i_z, b2i_o, b2i_zo, Int.cast_ofNat_Int, Int.natCast_zero, Int.natCast_one, if_true, if_false, ite_self, Int.le_refl, J_bit, J_or, J_neg, J_oN, Int.reduceEq, Int.reduceLT, Int.reduceLE, Int.reduceNeg, Int.reduceAdd, Int.reduceSub, Int.reduceMul, Int.reduceToNat, J_shl, J_shr, V_ite, true_or, or_true, nz_j, J_div, J_rem, Option.bind_some, Option.toList_some, Option.toList_none, List.cons_append, List.nil_append] at h
  simp (maxSteps := 1000000) (disch := first | omega | decide +kernel) only [b121_74, b121_86, gP_bkl, gO_bkl, gR_bkl, gR_some, lk3_c, ↓reduceIte, lk3_sk, l0, nw_bkl, wr_bkl, rz_bkl, con77m, con6m, con58m, con0m, con99m, Nat.reduceAdd, Nat.reduceEqDiff, and_true, true_and, and_false, false_and, and_self, Option.map_some, Jl0, Jl1, Jl2, Jl3, Jl4, Jl5, Jl6, Jl7, Jl8, Jl9, Jl10, Jl11, Jl12, Jl13, Jl14, Jl15, Jl16, Jl17, Jl18, Jl19, Jl20, Jl22, Jl24, Jl28, Jl30, Jl31, Jl32, Jl35, Jl36, Jl37, Jl38, Jl39, Jl40, Jl48, Jl57, Jl59, Jl60, Jl61, Jl63, Jl64, Jl68, Jl69, Jl96, Jl97, Jl98, Jl99, Jl100, Jl122, Jl149, Jl150, Jl165, Jl255, Jl511, Jl512, Jl600, Jl610, Jl940, Jl968, Jl999, Jl1134, Jl1152, Jl2048, Jl4608, Jl9999, Jl99999, Jl100000, Jl147456, Jl12345, Jl1103515245, Jl100000000, Jlm1, Jlm2, J_add, J_sub, J_mul, J_lt, J_le, J_eq, J_ite, J_cl, ri_j, wi_j, b2i_z, b2i_o, b2i_zo, Int.cast_ofNat_Int, Int.natCast_zero, Int.natCast_one, if_true, if_false, ite_self, Int.le_refl, J_bit, J_or, J_neg, J_oN, Int.reduceEq, Int.reduceLT, Int.reduceLE, Int.reduceNeg, Int.reduceAdd, Int.reduceSub, Int.reduceMul, Int.reduceToNat, J_shl, J_shr, V_ite, true_or, or_true, nz_j, J_div, J_rem, Option.bind_some, Option.toList_some, Option.toList_none, List.cons_append, List.nil_append] at h
  simp (maxSteps := 1000000) (disch := first | omega | decide +kernel) only [e10, b10_0, b10_13, b10_21, b10_29, b10_36, b10_41, b10_46, b10_51, b121_97, gP_bkl, gO_bkl, gR_bkl, gR_some, lk3_c, ↓reduceIte, lk3_sk, l0, nw_bkl, wr_bkl, rz_bkl, con77m, con6m, con58m, con0m, con99m, Nat.reduceAdd, Nat.reduceEqDiff, and_true, true_and, and_false, false_and, and_self, Option.map_some, Jl0, Jl1, Jl2, Jl3, Jl4, Jl5, Jl6, Jl7, Jl8, Jl9, Jl10, Jl11, Jl12, Jl13, Jl14, Jl15, Jl16, Jl17, Jl18, Jl19, Jl20, Jl22, Jl24, Jl28, Jl30, Jl31, Jl32, Jl35, Jl36, Jl37, Jl38, Jl39, Jl40, Jl48, Jl57, Jl59, Jl60, Jl61, Jl63, Jl64, Jl68, Jl69, Jl96, Jl97, Jl98, Jl99, Jl100, Jl122, Jl149, Jl150, Jl165, Jl255, Jl511, Jl512, Jl600, Jl610, Jl940, Jl968, Jl999, Jl1134, Jl1152, Jl2048, Jl4608, Jl9999, Jl99999, Jl100000, Jl147456, Jl12345, Jl1103515245, Jl100000000, Jlm1, Jlm2, J_add, J_sub, J_mul, J_lt, J_le, J_eq, J_ite, J_cl, ri_j, wi_j, b2i_z, b2i_o, b2i_zo, Int.cast_ofNat_Int, Int.natCast_zero, Int.natCast_one, if_true, if_false, ite_self, Int.le_refl, J_bit, J_or, J_neg, J_oN, Int.reduceEq, Int.reduceLT, Int.reduceLE, Int.reduceNeg, Int.reduceAdd, Int.reduceSub, Int.reduceMul, Int.reduceToNat, J_shl, J_shr, V_ite, true_or, or_true, nz_j, J_div, J_rem, Option.bind_some, Option.toList_some, Option.toList_none, List.cons_append, List.nil_append] at h
  simp (maxSteps := 1000000) (disch := first | omega | decide +kernel) only [b121_100, e32, b32_0, b32_12, b32_15, b32_20, b32_25, b32_33, b32_38, b32_46, b32_54, b32_63, b32_70, b32_78, b32_83, b121_112, gP_bkl, gO_bkl, gR_bkl, gR_some, lk3_c, ↓reduceIte, lk3_sk, l0, nw_bkl, wr_bkl, rz_bkl, con77m, con6m, con58m, con0m, con99m, Nat.reduceAdd, Nat.reduceEqDiff, and_true, true_and, and_false, false_and, and_self, Option.map_some, Jl0, Jl1, Jl2, Jl3, Jl4, Jl5, Jl6, Jl7, Jl8, Jl9, Jl10, Jl11, Jl12, Jl13, Jl14, Jl15, Jl16, Jl17, Jl18, Jl19, Jl20, Jl22, Jl24, Jl28, Jl30, Jl31, Jl32, Jl35, Jl36, Jl37, Jl38, Jl39, Jl40, Jl48, Jl57, Jl59, Jl60, Jl61, Jl63, Jl64, Jl68, Jl69, Jl96, Jl97, Jl98, Jl99, Jl100, Jl122, Jl149, Jl150, Jl165, Jl255, Jl511, Jl512, Jl600, Jl610, Jl940, Jl968, Jl999, Jl1134, Jl1152, Jl2048, Jl4608, Jl9999, Jl99999, Jl100000, Jl147456, Jl12345, Jl1103515245, Jl100000000, Jlm1, Jlm2, J_add, J_sub, J_mul, J_lt, J_le, J_eq, J_ite, J_cl, ri_j, wi_j, b2i_z, b2i_o, b2i_zo, Int.cast_ofNat_Int, Int.natCast_zero, Int.natCast_one, if_true, if_false, ite_self, Int.le_refl, J_bit, J_or, J_neg, J_oN, Int.reduceEq, Int.reduceLT, Int.reduceLE, Int.reduceNeg, Int.reduceAdd, Int.reduceSub, Int.reduceMul, Int.reduceToNat, J_shl, J_shr, V_ite, true_or, or_true, nz_j, J_div, J_rem, Option.bind_some, Option.toList_some, Option.toList_none, List.cons_append, List.nil_append] at h
  simp (maxSteps := 1000000) (disch := first | omega | decide +kernel) only [b121_115, e104, b104_0, b104_9, b104_14, b104_22, b104_30, b104_33, b104_41, b104_50, b104_58, b104_67, b104_76, b104_85, b104_94, b104_102, b104_111, b121_123, b121_126, gP_bkl, gO_bkl, gR_bkl, gR_some, lk3_c, ↓reduceIte, lk3_sk, l0, nw_bkl, wr_bkl, rz_bkl, con77m, con6m, con58m, con0m, con99m, Nat.reduceAdd, Nat.reduceEqDiff, and_true, true_and, and_false, false_and, and_self, Option.map_some, Jl0, Jl1, Jl2, Jl3, Jl4, Jl5, Jl6, Jl7, Jl8, Jl9, Jl10, Jl11, Jl12, Jl13, Jl14, Jl15, Jl16, Jl17, Jl18, Jl19, Jl20, Jl22, Jl24, Jl28, Jl30, Jl31, Jl32, Jl35, Jl36, Jl37, Jl38, Jl39, Jl40, Jl48, Jl57, Jl59, Jl60, Jl61, Jl63, Jl64, Jl68, Jl69, Jl96, Jl97, Jl98, Jl99, Jl100, Jl122, Jl149, Jl150, Jl165, Jl255, Jl511, Jl512, Jl600, Jl610, Jl940, Jl968, Jl999, Jl1134, Jl1152, Jl2048, Jl4608, Jl9999, Jl99999, Jl100000, Jl147456, Jl12345, Jl1103515245, Jl100000000, Jlm1, Jlm2, J_add, J_sub, J_mul, J_lt, J_le, J_eq, J_ite, J_cl, ri_j, wi_j, b2i_z, b2i_o, b2i_zo, Int.cast_ofNat_Int, Int.natCast_zero, Int.natCast_one, if_true, if_false, ite_self, Int.le_refl, J_bit, J_or, J_neg, J_oN, Int.reduceEq, Int.reduceLT, Int.reduceLE, Int.reduceNeg, Int.reduceAdd, Int.reduceSub, Int.reduceMul, Int.reduceToNat, J_shl, J_shr, V_ite, true_or, or_true, nz_j, J_div, J_rem, Option.bind_some, Option.toList_some, Option.toList_none, List.cons_append, List.nil_append] at h
  refine ⟨_, _, _, hX.trans h.symm, by decide +kernel, ?_, ?_, ?_, ?_, ?_, ?_, ?_⟩
  · intro a ha
    simp (disch := omega) only [sA_n, sA_s, u3_c, cI77_n, cI6_n, cI99_n, zI_n, k1]
  · simp (disch := omega) only [sA_n, sA_s, u3_c, cI77_n, cI6_n, cI99_n, zI_n, u3_n]
    exact k2
  · simp (disch := omega) only [sA_n, sA_s, u3_c, cI77_n, cI6_n, cI99_n, zI_n]
    exact ⟨k3, k4, k5, k6⟩
  · refine ⟨?_, fun w q1 q2 => ?_⟩
    · unfold rws
      simp (disch := omega) only [Nat.add_zero, sA_n, sA_s, u3_c, cI77_n, cI6_n, cI99_n, zI_n, cI6_e0, cI6_e1, cI6_e2, cI6_e3, cI6_4]
      decide
    · unfold rws
      simp (disch := omega) only [sA_n, sA_s, u3_c, cI77_n, cI6_n, cI99_n, zI_n, cI6_e5]
      decide
  · refine ⟨?_, fun u q1 q2 => ?_⟩
    · simp (disch := omega) only [sA_n, sA_s, u3_c, cI77_n, cI6_n, cI99_n, zI_n, cI99_0]
    · simp (disch := omega) only [sA_n, sA_s, u3_c, cI77_n, cI6_n, cI99_n, zI_n, cI99_1, cI99_2, cI99_3, and_self]
  · simp (disch := omega) only [Nat.add_assoc, Nat.reduceAdd, sA_n, sA_s, u3_c, cI77_n, cI6_n, cI99_n, zI_n]
  · simp (disch := omega) only [Nat.add_assoc, Nat.reduceAdd, sA_n, sA_s, u3_c, cI77_n, cI6_n, cI99_n, zI_n]
theorem wrA_bkl {n a t w : Nat} {L : List rKd} {R : List (Nat × Nat × Nat)} {U : Nat} {x : Int} {r : Option rRs} (hl : lo ≤ z) (h : L[n - 1 - a]? = some (.inr (t, w))) (ha : a < n) (hx : 0 ≤ x ∧ x < w ∧ x < 2147483648) : wrA lo (mj (bkl μ z n L R U) I) (z + a) t (J x) r = r := wrA_k (rk_bkl h ha) (by omega) hx
theorem con167 (hd : 1 ≤ d) (hl : lo ≤ z) (hz : rz μ = z) : cl E lo d 167 [.ref z] (nw (mj μ I) (.inl 12) 53) = some (none, mj (bkl μ z 26 kMr rMr 302015) (u3 (zI I z 25) (z + 1) 6 (-1))) := by
  obtain ⟨d, rfl⟩ : ∃ e, d = e + 1 := ⟨d - 1, by omega⟩
  rw [nw_0 hz]
  show cl E lo (d + 1) 167 [.ref (z + 0)] _ = _
  simp (maxSteps := 1000000) (disch := first | omega | decide +kernel) only [e167, b167_0, b167_13, b167_20, b167_29, b167_37, b167_45, b167_53, b167_61, b167_69, b167_77, b167_85, b167_93, b167_101, b167_109, b167_117, b167_125, b167_133, b167_141, b167_149, b167_157, b167_165, b167_173, b167_181, b167_189, b167_197, b167_206, b167_214, gP_bkl, gO_bkl, gR_bkl, gR_some, lk3_c, ↓reduceIte, nw_bkl, wr_bkl, rz_bkl, wrA_bkl (w := 4608), Nat.reduceAdd, Nat.reduceEqDiff, and_true, true_and, and_false, false_and, and_self, Option.map_some, Jl0, Jl1, Jl2, Jl3, Jl4, Jl5, Jl6, Jl7, Jl8, Jl9, Jl10, Jl11, Jl12, Jl13, Jl14, Jl15, Jl16, Jl17, Jl18, Jl19, Jl20, Jl22, Jl24, Jl28, Jl30, Jl31, Jl32, Jl35, Jl36, Jl37, Jl38, Jl39, Jl40, Jl48, Jl57, Jl59, Jl60, Jl61, Jl63, Jl64, Jl68, Jl69, Jl96, Jl97, Jl98, Jl99, Jl100, Jl122, Jl149, Jl150, Jl165, Jl255, Jl511, Jl512, Jl600, Jl610, Jl940, Jl968, Jl999, Jl1134, Jl1152, Jl2048, Jl4608, Jl9999, Jl99999, Jl100000, Jl147456, Jl12345, Jl1103515245, Jl100000000, Jlm1, Jlm2, J_add, J_sub, J_mul, J_lt, J_le, J_eq, J_ite, J_cl, ri_j, wi_j, b2i_z, b2i_o, b2i_zo, Int.cast_ofNat_Int, Int.natCast_zero, Int.natCast_one, if_true, if_false, ite_self, Int.le_refl, J_bit, J_or, J_neg, J_oN, Int.reduceEq, Int.reduceLT, Int.reduceLE, Int.reduceNeg, Int.reduceAdd, Int.reduceSub, Int.reduceMul, Int.reduceToNat, J_shl, J_shr, V_ite, true_or, or_true, nz_j, J_div, J_rem, Option.bind_some, Option.toList_some, Option.toList_none, List.cons_append, List.nil_append]
  rfl
theorem CO_bkl {L : List rKd} {R : List (Nat × Nat × Nat)} (h : ckA L R = true) : CO (bkl μ lo 172 (kMr ++ L) (shR 146 rMr ++ R) 310214) lo ∧ (∀ k, k < 3 → rr (bkl μ lo 172 (kMr ++ L) (shR 146 rMr ++ R) 310214) (lo + 48) k = none) := by
  unfold ckA at h
  simp only [Bool.and_eq_true, decide_eq_true_eq] at h
  obtain ⟨⟨⟨⟨⟨⟨⟨h1, h2⟩, h3⟩, h4⟩, h5⟩, h6⟩, h7⟩, h8⟩ := h
  unfold ckK at h2
  unfold ckR at h3
  rw [List.all_eq_true] at h2 h3
  refine ⟨⟨fun q hq => ?_, fun q hq => ?_, Or.inl ⟨?_, ?_⟩⟩, fun k hk => ?_⟩
  · have := h2 q hq
    rw [Bool.and_eq_true, decide_eq_true_eq, Nat.blt_eq] at this
    exact rk_bkl this.2 this.1
  · have := h3 q hq
    rw [Bool.and_eq_true, decide_eq_true_eq, Nat.blt_eq] at this
    exact rr_bkl this.2 this.1
  · exact rr_bkl (by rw [lk3_sk (by omega)]; exact h4) (by omega)
  · exact rr_bkl (by rw [lk3_sk (by omega)]; exact h5) (by omega)
  · have e : lk3 (shR 146 rMr ++ R) 48 k = none := by
      rw [lk3_sk (by omega)]
      have : k = 0 ∨ k = 1 ∨ k = 2 := by omega
      rcases this with rfl | rfl | rfl <;> assumption
    show (if lo ≤ lo + 48 ∧ lo + 48 < lo + 172 then (lk3 (shR 146 rMr ++ R) (lo + 48 - lo) k).map (fun b => lo + b) else rr μ (lo + 48) k) = none
    rw [if_pos (by omega), show lo + 48 - lo = 48 by omega, e]
    rfl
end CTOR
