/-! NEW OBJECTS: what is told, the class, the reference -/
theorem cI6_4 {I : Nat → Int → Int} {z : Nat} : cI6 I z z 4 = 0 := cI6_v.2
section CTOR
variable {E : (Nat → Value) × (Nat → Nat)} {lo d z : Nat} {μ : rM} {I : Nat → Int → Int}
theorem con94 (hd : 5 ≤ d) (hl : lo ≤ z) (hz : rz μ = z) : ∃ I', cl E lo d 94 [.ref z] (nw (mj μ I) (.inl 8) 9) = some (none, mj (bkl μ z 47 kDd rDd 1199) I') ∧ (∀ a, a < z → I' a = I a) ∧ (I' z 1 = 0 ∧ I' z 2 = 0 ∧ I' z 3 = -1) ∧ I' (z + 1) = Z0 ∧ I' (z + 2) = Z0 ∧ I' (z + 20) 4 = 0 ∧ I' (z + 40) 4 = 0 := by
  obtain ⟨d, rfl⟩ : ∃ e, d = e + 1 := ⟨d - 1, by omega⟩
  obtain ⟨X, hX⟩ : ∃ X, cl E lo (d + 1) 94 [.ref (z + 0)] (nw (mj μ I) (.inl 8) 9) = X := ⟨_, rfl⟩
  have h := hX
  rw [nw_0 hz] at h
  simp (disch := first | omega | decide) only [e94, b94_0, b94_13, b94_18, b94_23, b94_28, b94_35, b94_43, b94_51, b94_59, b94_67, b94_69, b94_74, b94_86, b94_87, b94_99, b94_100, b94_112, b94_113, b94_125, b94_126, b94_132, gP_bkl, gO_bkl, gR_bkl, gR_some, lk3_c, lk3_sk, nw_bkl, wr_bkl, rz_bkl, wrR_bkl (t := 7) (w := 2), wrR_bkl (t := 1) (w := 2), wrR_bkl (t := 5) (w := 2), wrR_bkl (t := 0) (w := 2), con77m, con6m, con58m, con0m, Nat.reduceAdd, Nat.reduceEqDiff, and_true, true_and, and_false, false_and, and_self, Option.map_some, Jl0, Jl1, Jl2, Jl3, Jl4, Jl5, Jl6, Jl7, Jl8, Jl9, Jl10, Jl11, Jl12, Jl13, Jl14, Jl15, Jl16, Jl17, Jl18, Jl19, Jl20, Jl22, Jl24, Jl28, Jl30, Jl31, Jl32, Jl35, Jl36, Jl37, Jl38, Jl39, Jl40, Jl48, Jl57, Jl59, Jl60, Jl61, Jl63, Jl64, Jl68, Jl69, Jl96, Jl97, Jl98, Jl99, Jl100, Jl122, Jl149, Jl150, Jl165, Jl255, Jl511, Jl512, Jl600, Jl610, Jl940, Jl968, Jl999, Jl1134, Jl1152, Jl2048, Jl4608, Jl9999, Jl99999, Jl100000, Jl147456, Jl12345, Jl1103515245, Jl100000000, Jlm1, Jlm2, J_add, J_sub, J_mul, J_lt, J_le, J_eq, J_ite, J_cl, ri_j, wi_j, b2i_z, b2i_o, b2i_zo, Int.cast_ofNat_Int, Int.natCast_zero, Int.natCast_one, if_true, if_false, ite_self, Int.le_refl, J_bit, J_or, J_neg, J_oN, Int.reduceEq, Int.reduceLT, Int.reduceLE, Int.reduceNeg, Int.reduceAdd, Int.reduceSub, Int.reduceMul, Int.reduceToNat, J_shl, J_shr, V_ite, true_or, or_true, nz_j, J_div, J_rem, Option.bind_some, Option.toList_some, Option.toList_none, List.cons_append, List.nil_append] at h
  refine ⟨_, hX.trans h.symm, ?_, ?_, ?_, ?_, ?_, ?_⟩
  · intro a ha
    simp (disch := omega) only [sA_n, u3_c, cI77_n, cI6_n, zI_n]
  · simp (disch := omega) only [sA_n, sA_s, u3_s, u3_n, cI77_n, cI6_n, zI_n, and_self]
    exact ⟨u3_s, u3_s, u3_s⟩
  · simp (disch := omega) only [sA_n, sA_s, u3_c, cI77_n, cI6_n, zI_n]
  · simp (disch := omega) only [sA_n, sA_s, u3_c, cI77_n, cI6_n, zI_n]
  · simp (disch := omega) only [sA_n, sA_s, u3_c, cI77_n, cI6_n, zI_n, cI6_4]
  · simp (disch := omega) only [sA_n, sA_s, u3_c, cI77_n, cI6_n, zI_n, cI6_4]
end CTOR
