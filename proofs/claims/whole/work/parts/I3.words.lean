/-! THE WORDS, in the reference -/
theorem K_cmpe {a b : Int} (ha : -9223372036854775808 ≤ a ∧ a < 9223372036854775808) (hb : -9223372036854775808 ≤ b ∧ b < 9223372036854775808) : (lg_cmp (K a) (K b) = J 0) = (a = b) := by
  unfold lg_cmp
  have e1 : (K a > K b) = (b < a) := by
    rw [gt_iff_lt, Int64.lt_iff_toInt_lt, K_toInt ha, K_toInt hb]
  have e2 : (K a = K b) = (a = b) := by
    rw [← Int64.toInt_inj, K_toInt ha, K_toInt hb]
  simp only [e1, e2]
  by_cases c1 : b < a
  · simp only [c1, if_true, show ((1 : Int32) = J 0) = False from by decide, eq_iff_iff, false_iff]
    omega
  · by_cases c2 : a = b
    · simp only [c1, c2, if_true, if_false, show ((0 : Int32) = J 0) = True from by decide]
      rw [if_neg (by omega)]
      simp only [show ((0 : Int32) = J 0) = True from by decide]
    · simp only [c1, c2, if_false, show ((-1 : Int32) = J 0) = False from by decide]
theorem Kl1048576 : (1048576 : Int64) = K 1048576 := by decide
/-- the number of a word by its code -/
def wa (v : Int) : Int := if v = 427595 then 11 else if v = 3120 then 12 else if v = 206277 then 13 else if v = 215205 then 14 else if v = 591493 then 15 else if v = 645974180 then 16 else if v = 2268462 then 17 else if v = 239 then 18 else if v = 20436420 then 19 else if v = 754996 then 20 else if v = 102407444 then 21 else if v = 18523316 then 22 else 99
def wo (v : Int) : Int := if v = 284871859 then 1 else if v = 146930 then 2 else if v = 3124 then 3 else if v = 17171758 then 4 else if v = 452599986 then 5 else if v = 3417476 then 6 else if v = 599144 then 7 else if v = 763333 then 8 else if v = 17285657 then 9 else if v = 658552979 then 10 else wa v
section REF
variable {E : (Nat → Value) × (Nat → Nat)} {lo d m : Nat} {μ : rM} {v a b c e a2 b2 c2 e2 : Int}
theorem four_sp (hd : 1 ≤ d) (h : (0 ≤ a ∧ a < 32) ∧ (0 ≤ b ∧ b < 32) ∧ (0 ≤ c ∧ c < 32) ∧ 0 ≤ e ∧ e < 32) : cl E lo d 174 [.int (J (a)), .int (J (b)), .int (J (c)), .int (J (e))] μ = some (some (.long (K (((a * 32 + b) * 32 + c) * 32 + e))), μ) := by
  obtain ⟨d, rfl⟩ : ∃ e, d = e + 1 := ⟨d - 1, by omega⟩
  simp (disch := omega) only [e174, b174_0, K_J, Jl0, Jl1, Jl2, Jl3, Jl4, Jl5, Jl6, Jl7, Jl8, Jl9, Jl10, Jl11, Jl12, Jl13, Jl14, Jl15, Jl16, Jl17, Jl18, Jl19, Jl20, Jl22, Jl24, Jl28, Jl30, Jl31, Jl32, Jl35, Jl36, Jl37, Jl38, Jl39, Jl40, Jl48, Jl57, Jl59, Jl60, Jl61, Jl63, Jl64, Jl68, Jl69, Jl96, Jl97, Jl98, Jl99, Jl100, Jl122, Jl149, Jl150, Jl165, Jl255, Jl511, Jl512, Jl600, Jl610, Jl940, Jl968, Jl999, Jl1134, Jl1152, Jl2048, Jl4608, Jl9999, Jl99999, Jl100000, Jl147456, Jl12345, Jl1103515245, Jl100000000, Jlm1, Jlm2, J_add, J_sub, J_mul, J_lt, J_le, J_eq, J_ite, J_cl, ri_j, wi_j, b2i_z, b2i_o, b2i_zo, Int.cast_ofNat_Int, Int.natCast_zero, Int.natCast_one, if_true, if_false, ite_self, Int.le_refl, J_bit, J_or, J_neg, J_oN, Int.reduceEq, Int.reduceLT, Int.reduceLE, Int.reduceNeg, Int.reduceAdd, Int.reduceSub, Int.reduceMul, Int.reduceToNat, J_shl, J_shr, V_ite, true_or, or_true, nz_j, J_div, J_rem, Option.bind_some, Option.toList_some, Option.toList_none, List.cons_append, List.nil_append, Jl21, Jl23, Jl25, Jl74, Jl83, Jl288, Jl324, Jl1800, Jlm8]
theorem eight_sp (hd : 2 ≤ d) (h : (0 ≤ a ∧ a < 32) ∧ (0 ≤ b ∧ b < 32) ∧ (0 ≤ c ∧ c < 32) ∧ 0 ≤ e ∧ e < 32) (h2 : (0 ≤ a2 ∧ a2 < 32) ∧ (0 ≤ b2 ∧ b2 < 32) ∧ (0 ≤ c2 ∧ c2 < 32) ∧ 0 ≤ e2 ∧ e2 < 32) : cl E lo d 175 [.int (J (a)), .int (J (b)), .int (J (c)), .int (J (e)), .int (J (a2)), .int (J (b2)), .int (J (c2)), .int (J (e2))] μ = some (some (.long (K ((((a * 32 + b) * 32 + c) * 32 + e) * 1048576 + (((a2 * 32 + b2) * 32 + c2) * 32 + e2)))), μ) := by
  obtain ⟨d, rfl⟩ : ∃ e, d = e + 1 := ⟨d - 1, by omega⟩
  have f1 := four_sp (E := E) (lo := lo) (d := d) (μ := μ) (by omega) h
  have f2 := four_sp (E := E) (lo := lo) (d := d) (μ := μ) (by omega) h2
  simp (disch := omega) only [e175, b175_0, b175_7, b175_22, f1, f2, K_mul, K_add, Kl1048576, Jl0, Jl1, Jl2, Jl3, Jl4, Jl5, Jl6, Jl7, Jl8, Jl9, Jl10, Jl11, Jl12, Jl13, Jl14, Jl15, Jl16, Jl17, Jl18, Jl19, Jl20, Jl22, Jl24, Jl28, Jl30, Jl31, Jl32, Jl35, Jl36, Jl37, Jl38, Jl39, Jl40, Jl48, Jl57, Jl59, Jl60, Jl61, Jl63, Jl64, Jl68, Jl69, Jl96, Jl97, Jl98, Jl99, Jl100, Jl122, Jl149, Jl150, Jl165, Jl255, Jl511, Jl512, Jl600, Jl610, Jl940, Jl968, Jl999, Jl1134, Jl1152, Jl2048, Jl4608, Jl9999, Jl99999, Jl100000, Jl147456, Jl12345, Jl1103515245, Jl100000000, Jlm1, Jlm2, J_add, J_sub, J_mul, J_lt, J_le, J_eq, J_ite, J_cl, ri_j, wi_j, b2i_z, b2i_o, b2i_zo, Int.cast_ofNat_Int, Int.natCast_zero, Int.natCast_one, if_true, if_false, ite_self, Int.le_refl, J_bit, J_or, J_neg, J_oN, Int.reduceEq, Int.reduceLT, Int.reduceLE, Int.reduceNeg, Int.reduceAdd, Int.reduceSub, Int.reduceMul, Int.reduceToNat, J_shl, J_shr, V_ite, true_or, or_true, nz_j, J_div, J_rem, Option.bind_some, Option.toList_some, Option.toList_none, List.cons_append, List.nil_append, Jl21, Jl23, Jl25, Jl74, Jl83, Jl288, Jl324, Jl1800, Jlm8]
theorem ow_sp (hd : 3 ≤ d) (hv : 0 ≤ v ∧ v < 1099511627776) : cl E lo d 177 [.long (K v)] μ = some (some (.int (J (wa v))), μ) := by
  obtain ⟨d, rfl⟩ : ∃ e, d = e + 1 := ⟨d - 1, by omega⟩
  unfold wa
  simp (disch := omega) only [e177, b177_0, b177_11, b177_15, b177_18, b177_27, b177_31, b177_34, b177_45, b177_49, b177_52, b177_62, b177_66, b177_69, b177_79, b177_83, b177_86, b177_101, b177_105, b177_108, b177_123, b177_127, b177_130, b177_140, b177_144, b177_147, b177_163, b177_167, b177_170, b177_181, b177_185, b177_188, b177_204, b177_208, b177_211, b177_227, b177_231, b177_236, b177_238, four_sp, eight_sp, K_cmpe, Int.reduceMul, Int.reduceAdd, Jl0, Jl1, Jl2, Jl3, Jl4, Jl5, Jl6, Jl7, Jl8, Jl9, Jl10, Jl11, Jl12, Jl13, Jl14, Jl15, Jl16, Jl17, Jl18, Jl19, Jl20, Jl22, Jl24, Jl28, Jl30, Jl31, Jl32, Jl35, Jl36, Jl37, Jl38, Jl39, Jl40, Jl48, Jl57, Jl59, Jl60, Jl61, Jl63, Jl64, Jl68, Jl69, Jl96, Jl97, Jl98, Jl99, Jl100, Jl122, Jl149, Jl150, Jl165, Jl255, Jl511, Jl512, Jl600, Jl610, Jl940, Jl968, Jl999, Jl1134, Jl1152, Jl2048, Jl4608, Jl9999, Jl99999, Jl100000, Jl147456, Jl12345, Jl1103515245, Jl100000000, Jlm1, Jlm2, J_add, J_sub, J_mul, J_lt, J_le, J_eq, J_ite, J_cl, ri_j, wi_j, b2i_z, b2i_o, b2i_zo, Int.cast_ofNat_Int, Int.natCast_zero, Int.natCast_one, if_true, if_false, ite_self, Int.le_refl, J_bit, J_or, J_neg, J_oN, Int.reduceEq, Int.reduceLT, Int.reduceLE, Int.reduceNeg, Int.reduceAdd, Int.reduceSub, Int.reduceMul, Int.reduceToNat, J_shl, J_shr, V_ite, true_or, or_true, nz_j, J_div, J_rem, Option.bind_some, Option.toList_some, Option.toList_none, List.cons_append, List.nil_append, Jl21, Jl23, Jl25, Jl74, Jl83, Jl288, Jl324, Jl1800, Jlm8]
  repeat' (first | rfl | split)
theorem wo_sp (hd : 4 ≤ d) (hv : 0 ≤ v ∧ v < 1099511627776) : cl E lo d 176 [.long (K v)] μ = some (some (.int (J (wo v))), μ) := by
  obtain ⟨d, rfl⟩ : ∃ e, d = e + 1 := ⟨d - 1, by omega⟩
  have ho := ow_sp (E := E) (lo := lo) (d := d) (μ := μ) (v := v) (by omega) hv
  unfold wo
  simp (disch := omega) only [e176, b176_0, b176_17, b176_21, b176_23, b176_34, b176_38, b176_40, b176_49, b176_53, b176_55, b176_71, b176_75, b176_77, b176_94, b176_98, b176_100, b176_115, b176_119, b176_122, b176_133, b176_137, b176_140, b176_151, b176_155, b176_158, b176_175, b176_179, b176_182, b176_198, b176_202, b176_205, b176_209, four_sp, eight_sp, K_cmpe, ho, Int.reduceMul, Int.reduceAdd, Jl0, Jl1, Jl2, Jl3, Jl4, Jl5, Jl6, Jl7, Jl8, Jl9, Jl10, Jl11, Jl12, Jl13, Jl14, Jl15, Jl16, Jl17, Jl18, Jl19, Jl20, Jl22, Jl24, Jl28, Jl30, Jl31, Jl32, Jl35, Jl36, Jl37, Jl38, Jl39, Jl40, Jl48, Jl57, Jl59, Jl60, Jl61, Jl63, Jl64, Jl68, Jl69, Jl96, Jl97, Jl98, Jl99, Jl100, Jl122, Jl149, Jl150, Jl165, Jl255, Jl511, Jl512, Jl600, Jl610, Jl940, Jl968, Jl999, Jl1134, Jl1152, Jl2048, Jl4608, Jl9999, Jl99999, Jl100000, Jl147456, Jl12345, Jl1103515245, Jl100000000, Jlm1, Jlm2, J_add, J_sub, J_mul, J_lt, J_le, J_eq, J_ite, J_cl, ri_j, wi_j, b2i_z, b2i_o, b2i_zo, Int.cast_ofNat_Int, Int.natCast_zero, Int.natCast_one, if_true, if_false, ite_self, Int.le_refl, J_bit, J_or, J_neg, J_oN, Int.reduceEq, Int.reduceLT, Int.reduceLE, Int.reduceNeg, Int.reduceAdd, Int.reduceSub, Int.reduceMul, Int.reduceToNat, J_shl, J_shr, V_ite, true_or, or_true, nz_j, J_div, J_rem, Option.bind_some, Option.toList_some, Option.toList_none, List.cons_append, List.nil_append, Jl21, Jl23, Jl25, Jl74, Jl83, Jl288, Jl324, Jl1800, Jlm8]
  repeat' (first | rfl | split)
end REF
