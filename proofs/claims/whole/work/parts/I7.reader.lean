/-! THE NEXT TOKEN, in the class: next(), open() -/
/-- after next(), the reader having stood at p -/
def nxX (X B : Int → Int) (n p : Int) : Int → Int := rdX X (tE B n (tW B n p)) (tK B n (tW B n p)) (tW B n p) (if tW B n p < n ∧ dG (B (tW B n p)) = true then nuQ B (tW B n p) (tE B n (tW B n p) - tW B n p) else X 5)
section READER
variable {E : (Nat → Value) × (Nat → Nat)} {lo d r b : Nat} {μ : rM} {I : Nat → Int → Int} {X B : Int → Int} {x : Int}
theorem next_sp (hd : 3 ≤ d) (hR : ShRd μ r b) (hl : lo ≤ r) (hn : 0 ≤ X 1 ∧ X 1 ≤ 600) (hp : 0 ≤ X 2 ∧ X 2 ≤ 600) (hB : TpB I b B) : cl E lo d 52 [.ref r] (mj μ (sA I r X)) = some (none, mj μ (sA I r (nxX X B (X 1) (X 2)))) := by
  obtain ⟨d, rfl⟩ : ∃ e, d = e + 1 := ⟨d - 1, by omega⟩
  have hR' := hR
  obtain ⟨h1, h2, h3, h4⟩ := hR
  have h3t : (1 : Nat) = 1 ∨ (1 : Nat) = 2 := Or.inl rfl
  obtain ⟨w, hw⟩ : ∃ w, w = tW B (X 1) (X 2) := ⟨_, rfl⟩
  unfold nxX
  rw [← hw]
  have L1 := rn_loop (fun i => ex PG E lo d 52 0 [some (.ref r)] [] (mj μ (sA I r (rdX X i (X 3) (X 4) (X 5))))) (fun j => bL (B j)) (X 1) (X 2) (fun i g1 g2 g3 => by
    obtain ⟨q1, q2⟩ := hB i (by omega) (by omega)
    unfold bL at g3
    rw [decide_eq_true_eq] at g3
    rw [b52_0]
    rcases g3 with g3 | g3
    · have e8 : s8 (B i) = 10 := by unfold s8; rw [if_pos (by omega)]; exact g3
      rw [e8] at q1
      simp (disch := omega) only [b52_11, b52_39, b52_49, gO_k h1, gP_k h1 hl, gR_k h2, rdB_k h3 h3t, sA_s, sA_n h4, u3_sA, sA_sA, rdX_g1, rdX_g2, rdX_2, q1, Jl0, Jl1, Jl2, Jl3, Jl4, Jl5, Jl6, Jl7, Jl8, Jl9, Jl10, Jl11, Jl12, Jl13, Jl14, Jl15, Jl16, Jl17, Jl18, Jl19, Jl20, Jl22, Jl24, Jl28, Jl30, Jl31, Jl32, Jl35, Jl36, Jl37, Jl38, Jl39, Jl40, Jl48, Jl57, Jl59, Jl60, Jl61, Jl63, Jl64, Jl68, Jl69, Jl96, Jl97, Jl98, Jl99, Jl100, Jl122, Jl149, Jl150, Jl165, Jl255, Jl511, Jl512, Jl600, Jl610, Jl940, Jl968, Jl999, Jl1134, Jl1152, Jl2048, Jl4608, Jl9999, Jl99999, Jl100000, Jl147456, Jl12345, Jl1103515245, Jl100000000, Jlm1, Jlm2, J_add, J_sub, J_mul, J_lt, J_le, J_eq, J_ite, J_cl, ri_j, wi_j, b2i_z, b2i_o, b2i_zo, Int.cast_ofNat_Int, Int.natCast_zero, Int.natCast_one, if_true, if_false, ite_self, Int.le_refl, J_bit, J_or, J_neg, J_oN, Int.reduceEq, Int.reduceLT, Int.reduceLE, Int.reduceNeg, Int.reduceAdd, Int.reduceSub, Int.reduceMul, Int.reduceToNat, J_shl, J_shr, V_ite, true_or, or_true, nz_j, J_div, J_rem, Option.bind_some, Option.toList_some, Option.toList_none, List.cons_append, List.nil_append, Jl21, Jl23, Jl25, Jl74, Jl83, Jl288, Jl324, Jl1800, Jlm8]
      repeat (first | rw [if_neg (by omega)] | rw [if_pos (by omega)])
    · have e8 : s8 (B i) = 32 := by unfold s8; rw [if_pos (by omega)]; exact g3
      rw [e8] at q1
      simp (disch := omega) only [b52_11, b52_25, b52_39, b52_49, gO_k h1, gP_k h1 hl, gR_k h2, rdB_k h3 h3t, sA_s, sA_n h4, u3_sA, sA_sA, rdX_g1, rdX_g2, rdX_2, q1, Jl0, Jl1, Jl2, Jl3, Jl4, Jl5, Jl6, Jl7, Jl8, Jl9, Jl10, Jl11, Jl12, Jl13, Jl14, Jl15, Jl16, Jl17, Jl18, Jl19, Jl20, Jl22, Jl24, Jl28, Jl30, Jl31, Jl32, Jl35, Jl36, Jl37, Jl38, Jl39, Jl40, Jl48, Jl57, Jl59, Jl60, Jl61, Jl63, Jl64, Jl68, Jl69, Jl96, Jl97, Jl98, Jl99, Jl100, Jl122, Jl149, Jl150, Jl165, Jl255, Jl511, Jl512, Jl600, Jl610, Jl940, Jl968, Jl999, Jl1134, Jl1152, Jl2048, Jl4608, Jl9999, Jl99999, Jl100000, Jl147456, Jl12345, Jl1103515245, Jl100000000, Jlm1, Jlm2, J_add, J_sub, J_mul, J_lt, J_le, J_eq, J_ite, J_cl, ri_j, wi_j, b2i_z, b2i_o, b2i_zo, Int.cast_ofNat_Int, Int.natCast_zero, Int.natCast_one, if_true, if_false, ite_self, Int.le_refl, J_bit, J_or, J_neg, J_oN, Int.reduceEq, Int.reduceLT, Int.reduceLE, Int.reduceNeg, Int.reduceAdd, Int.reduceSub, Int.reduceMul, Int.reduceToNat, J_shl, J_shr, V_ite, true_or, or_true, nz_j, J_div, J_rem, Option.bind_some, Option.toList_some, Option.toList_none, List.cons_append, List.nil_append, Jl21, Jl23, Jl25, Jl74, Jl83, Jl288, Jl324, Jl1800, Jlm8]
      repeat (first | rw [if_neg (by omega)] | rw [if_pos (by omega)]))
  obtain ⟨w1, w2, w3, w4'⟩ := rn_sp (fun j => bL (B j)) (X 1) _ (X 2) rfl
  rw [show rn (fun j => bL (B j)) (X 1) (X 2) = w from hw.symm] at L1 w1 w2 w3 w4'
  have e0 : cl E lo (d + 1) 52 [.ref r] (mj μ (sA I r X)) = ex PG E lo d 52 0 [some (.ref r)] [] (mj μ (sA I r (rdX X (X 2) (X 3) (X 4) (X 5)))) := by
    rw [← rdX_i, e52]
  rw [e0, L1]
  by_cases c1 : X 1 ≤ w
  · have eE : tE B (X 1) w = w := if_pos c1
    have eT : tK B (X 1) w = 0 := if_pos c1
    rw [if_neg (fun q => by omega), eE, eT, b52_0]
    simp (disch := omega) only [b52_52, b52_60, b52_71, b52_76, b52_156, gO_k h1, gP_k h1 hl, sA_s, u3_sA, sA_sA, rdX_g1, rdX_g2, rdX_3, rdX_4, Jl0, Jl1, Jl2, Jl3, Jl4, Jl5, Jl6, Jl7, Jl8, Jl9, Jl10, Jl11, Jl12, Jl13, Jl14, Jl15, Jl16, Jl17, Jl18, Jl19, Jl20, Jl22, Jl24, Jl28, Jl30, Jl31, Jl32, Jl35, Jl36, Jl37, Jl38, Jl39, Jl40, Jl48, Jl57, Jl59, Jl60, Jl61, Jl63, Jl64, Jl68, Jl69, Jl96, Jl97, Jl98, Jl99, Jl100, Jl122, Jl149, Jl150, Jl165, Jl255, Jl511, Jl512, Jl600, Jl610, Jl940, Jl968, Jl999, Jl1134, Jl1152, Jl2048, Jl4608, Jl9999, Jl99999, Jl100000, Jl147456, Jl12345, Jl1103515245, Jl100000000, Jlm1, Jlm2, J_add, J_sub, J_mul, J_lt, J_le, J_eq, J_ite, J_cl, ri_j, wi_j, b2i_z, b2i_o, b2i_zo, Int.cast_ofNat_Int, Int.natCast_zero, Int.natCast_one, if_true, if_false, ite_self, Int.le_refl, J_bit, J_or, J_neg, J_oN, Int.reduceEq, Int.reduceLT, Int.reduceLE, Int.reduceNeg, Int.reduceAdd, Int.reduceSub, Int.reduceMul, Int.reduceToNat, J_shl, J_shr, V_ite, true_or, or_true, nz_j, J_div, J_rem, Option.bind_some, Option.toList_some, Option.toList_none, List.cons_append, List.nil_append, Jl21, Jl23, Jl25, Jl74, Jl83, Jl288, Jl324, Jl1800, Jlm8]
    repeat (first | rw [if_neg (by omega)] | rw [if_pos (by omega)])
  · obtain ⟨q1, q2⟩ := hB w (by omega) (by omega)
    have hs := s8_32 q2
    have nb : ¬ (B w = 10 ∨ B w = 32) := fun q => w4' ⟨by omega, decide_eq_true q⟩
    have n10 : ¬ s8 (B w) = 10 := by rw [s8_eq q2 (by omega)]; exact fun q => nb (Or.inl q)
    have n32 : ¬ s8 (B w) = 32 := by rw [s8_eq q2 (by omega)]; exact fun q => nb (Or.inr q)
    have s1 : ex PG E lo d 52 11 [some (.ref r)] [] (mj μ (sA I r (rdX X w (X 3) (X 4) (X 5)))) = ex PG E lo d 52 79 [some (.ref r)] [] (mj μ (sA I r (rdX X w (X 3) w (X 5)))) := by
      simp (disch := omega) only [b52_11, b52_25, b52_52, b52_60, gO_k h1, gP_k h1 hl, gR_k h2, rdB_k h3 h3t, sA_s, sA_n h4, u3_sA, sA_sA, rdX_g1, rdX_g2, rdX_4, q1, Jl0, Jl1, Jl2, Jl3, Jl4, Jl5, Jl6, Jl7, Jl8, Jl9, Jl10, Jl11, Jl12, Jl13, Jl14, Jl15, Jl16, Jl17, Jl18, Jl19, Jl20, Jl22, Jl24, Jl28, Jl30, Jl31, Jl32, Jl35, Jl36, Jl37, Jl38, Jl39, Jl40, Jl48, Jl57, Jl59, Jl60, Jl61, Jl63, Jl64, Jl68, Jl69, Jl96, Jl97, Jl98, Jl99, Jl100, Jl122, Jl149, Jl150, Jl165, Jl255, Jl511, Jl512, Jl600, Jl610, Jl940, Jl968, Jl999, Jl1134, Jl1152, Jl2048, Jl4608, Jl9999, Jl99999, Jl100000, Jl147456, Jl12345, Jl1103515245, Jl100000000, Jlm1, Jlm2, J_add, J_sub, J_mul, J_lt, J_le, J_eq, J_ite, J_cl, ri_j, wi_j, b2i_z, b2i_o, b2i_zo, Int.cast_ofNat_Int, Int.natCast_zero, Int.natCast_one, if_true, if_false, ite_self, Int.le_refl, J_bit, J_or, J_neg, J_oN, Int.reduceEq, Int.reduceLT, Int.reduceLE, Int.reduceNeg, Int.reduceAdd, Int.reduceSub, Int.reduceMul, Int.reduceToNat, J_shl, J_shr, V_ite, true_or, or_true, nz_j, J_div, J_rem, Option.bind_some, Option.toList_some, Option.toList_none, List.cons_append, List.nil_append, Jl21, Jl23, Jl25, Jl74, Jl83, Jl288, Jl324, Jl1800, Jlm8]
      repeat (first | rw [if_neg (by omega)] | rw [if_pos (by omega)])
    have s0 : gO (mj μ (sA I r (rdX X w (X 3) (X 4) (X 5)))) r 4 (gO (mj μ (sA I r (rdX X w (X 3) (X 4) (X 5)))) r 4 (if (ri (mj μ (sA I r (rdX X w (X 3) (X 4) (X 5)))) r 1) ≤ (ri (mj μ (sA I r (rdX X w (X 3) (X 4) (X 5)))) r 2) then ex PG E lo d 52 52 [some (.ref r)] [] (mj μ (sA I r (rdX X w (X 3) (X 4) (X 5)))) else ex PG E lo d 52 11 [some (.ref r)] [] (mj μ (sA I r (rdX X w (X 3) (X 4) (X 5)))))) = ex PG E lo d 52 11 [some (.ref r)] [] (mj μ (sA I r (rdX X w (X 3) (X 4) (X 5)))) := by
      simp (disch := omega) only [gO_k h1, sA_s, rdX_g1, rdX_g2, Jl0, Jl1, Jl2, Jl3, Jl4, Jl5, Jl6, Jl7, Jl8, Jl9, Jl10, Jl11, Jl12, Jl13, Jl14, Jl15, Jl16, Jl17, Jl18, Jl19, Jl20, Jl22, Jl24, Jl28, Jl30, Jl31, Jl32, Jl35, Jl36, Jl37, Jl38, Jl39, Jl40, Jl48, Jl57, Jl59, Jl60, Jl61, Jl63, Jl64, Jl68, Jl69, Jl96, Jl97, Jl98, Jl99, Jl100, Jl122, Jl149, Jl150, Jl165, Jl255, Jl511, Jl512, Jl600, Jl610, Jl940, Jl968, Jl999, Jl1134, Jl1152, Jl2048, Jl4608, Jl9999, Jl99999, Jl100000, Jl147456, Jl12345, Jl1103515245, Jl100000000, Jlm1, Jlm2, J_add, J_sub, J_mul, J_lt, J_le, J_eq, J_ite, J_cl, ri_j, wi_j, b2i_z, b2i_o, b2i_zo, Int.cast_ofNat_Int, Int.natCast_zero, Int.natCast_one, if_true, if_false, ite_self, Int.le_refl, J_bit, J_or, J_neg, J_oN, Int.reduceEq, Int.reduceLT, Int.reduceLE, Int.reduceNeg, Int.reduceAdd, Int.reduceSub, Int.reduceMul, Int.reduceToNat, J_shl, J_shr, V_ite, true_or, or_true, nz_j, J_div, J_rem, Option.bind_some, Option.toList_some, Option.toList_none, List.cons_append, List.nil_append, Jl21, Jl23, Jl25, Jl74, Jl83, Jl288, Jl324, Jl1800, Jlm8]
      repeat (first | rw [if_neg (by omega)] | rw [if_pos (by omega)])
    rw [b52_0, s0, s1, b52_79]
    have hle := fun μ => clet_sp (E := E) (lo := lo) (d := d) (μ := μ) (x := s8 (B w)) (by omega) (by unfold i32; omega)
    have hdi := fun μ => cdig_sp (E := E) (lo := lo) (d := d) (μ := μ) (x := s8 (B w)) (by omega) (by unfold i32; omega)
    rw [s8_lT q2] at hle
    rw [s8_dG q2] at hdi
    by_cases cL : lT (B w) = true
    · have cL' := cL
      unfold lT at cL'
      rw [decide_eq_true_eq] at cL'
      have nd : ¬ dG (B w) = true := fun q => by
        unfold dG at q
        rw [decide_eq_true_eq] at q
        omega
      rw [cL] at hle
      have hw' := rw_sp (E := E) (lo := lo) (d := d) (I := I) (X := X) (w := w) (k := X 3) (nu := X 5) (by omega) hR' hl hn ⟨by omega, by omega⟩ hB
      have eE : tE B (X 1) w = rn (fun j => lT (B j)) (X 1) w := by unfold tE; rw [if_neg c1, if_pos cL]
      have eT : tK B (X 1) w = 1 := by unfold tK; rw [if_neg c1, if_pos cL]
      rw [if_neg (fun q => nd q.2), eE, eT]
      simp (disch := omega) only [b52_91, b52_94, b52_98, b52_156, gO_k h1, gP_k h1 hl, gR_k h2, rdB_k h3 h3t, sA_s, sA_n h4, rdX_g1, rdX_g2, q1, hle, hw', b2i_t, Jl0, Jl1, Jl2, Jl3, Jl4, Jl5, Jl6, Jl7, Jl8, Jl9, Jl10, Jl11, Jl12, Jl13, Jl14, Jl15, Jl16, Jl17, Jl18, Jl19, Jl20, Jl22, Jl24, Jl28, Jl30, Jl31, Jl32, Jl35, Jl36, Jl37, Jl38, Jl39, Jl40, Jl48, Jl57, Jl59, Jl60, Jl61, Jl63, Jl64, Jl68, Jl69, Jl96, Jl97, Jl98, Jl99, Jl100, Jl122, Jl149, Jl150, Jl165, Jl255, Jl511, Jl512, Jl600, Jl610, Jl940, Jl968, Jl999, Jl1134, Jl1152, Jl2048, Jl4608, Jl9999, Jl99999, Jl100000, Jl147456, Jl12345, Jl1103515245, Jl100000000, Jlm1, Jlm2, J_add, J_sub, J_mul, J_lt, J_le, J_eq, J_ite, J_cl, ri_j, wi_j, b2i_z, b2i_o, b2i_zo, Int.cast_ofNat_Int, Int.natCast_zero, Int.natCast_one, if_true, if_false, ite_self, Int.le_refl, J_bit, J_or, J_neg, J_oN, Int.reduceEq, Int.reduceLT, Int.reduceLE, Int.reduceNeg, Int.reduceAdd, Int.reduceSub, Int.reduceMul, Int.reduceToNat, J_shl, J_shr, V_ite, true_or, or_true, nz_j, J_div, J_rem, Option.bind_some, Option.toList_some, Option.toList_none, List.cons_append, List.nil_append, Jl21, Jl23, Jl25, Jl74, Jl83, Jl288, Jl324, Jl1800, Jlm8]
    · have cL2 : lT (B w) = false := Bool.eq_false_iff.mpr cL
      rw [cL2] at hle
      by_cases cD : dG (B w) = true
      · rw [cD] at hdi
        have hw' := rnum_sp (E := E) (lo := lo) (d := d) (I := I) (X := X) (w := w) (k := X 3) (nu := X 5) (by omega) hR' hl hn ⟨by omega, by omega⟩ hB
        have eE : tE B (X 1) w = rn (fun j => dG (B j)) (X 1) w := by unfold tE; rw [if_neg c1, if_neg cL, if_pos cD]
        have eT : tK B (X 1) w = if rn (fun j => dG (B j)) (X 1) w - w ≤ 3 then 2 else 4 := by unfold tK; rw [if_neg c1, if_neg cL, if_pos cD, eE]
        rw [if_pos ⟨by omega, cD⟩, eE, eT]
        simp (disch := omega) only [b52_91, b52_101, b52_113, b52_116, b52_120, b52_156, gO_k h1, gP_k h1 hl, gR_k h2, rdB_k h3 h3t, sA_s, sA_n h4, rdX_g1, rdX_g2, q1, hle, hdi, hw', b2i_t, b2i_f, Jl0, Jl1, Jl2, Jl3, Jl4, Jl5, Jl6, Jl7, Jl8, Jl9, Jl10, Jl11, Jl12, Jl13, Jl14, Jl15, Jl16, Jl17, Jl18, Jl19, Jl20, Jl22, Jl24, Jl28, Jl30, Jl31, Jl32, Jl35, Jl36, Jl37, Jl38, Jl39, Jl40, Jl48, Jl57, Jl59, Jl60, Jl61, Jl63, Jl64, Jl68, Jl69, Jl96, Jl97, Jl98, Jl99, Jl100, Jl122, Jl149, Jl150, Jl165, Jl255, Jl511, Jl512, Jl600, Jl610, Jl940, Jl968, Jl999, Jl1134, Jl1152, Jl2048, Jl4608, Jl9999, Jl99999, Jl100000, Jl147456, Jl12345, Jl1103515245, Jl100000000, Jlm1, Jlm2, J_add, J_sub, J_mul, J_lt, J_le, J_eq, J_ite, J_cl, ri_j, wi_j, b2i_z, b2i_o, b2i_zo, Int.cast_ofNat_Int, Int.natCast_zero, Int.natCast_one, if_true, if_false, ite_self, Int.le_refl, J_bit, J_or, J_neg, J_oN, Int.reduceEq, Int.reduceLT, Int.reduceLE, Int.reduceNeg, Int.reduceAdd, Int.reduceSub, Int.reduceMul, Int.reduceToNat, J_shl, J_shr, V_ite, true_or, or_true, nz_j, J_div, J_rem, Option.bind_some, Option.toList_some, Option.toList_none, List.cons_append, List.nil_append, Jl21, Jl23, Jl25, Jl74, Jl83, Jl288, Jl324, Jl1800, Jlm8]
      · have cD2 : dG (B w) = false := Bool.eq_false_iff.mpr cD
        rw [cD2] at hdi
        have eE : tE B (X 1) w = w + 1 := by unfold tE; rw [if_neg c1, if_neg cL, if_neg cD]
        have eT : tK B (X 1) w = if B w = 59 then 3 else 4 := by unfold tK; rw [if_neg c1, if_neg cL, if_neg cD]
        rw [if_neg (fun q => cD q.2), eE, eT]
        by_cases k : B w = 59
        · have e8 : s8 (B w) = 59 := by rw [s8_eq q2 (by omega)]; exact k
          rw [if_pos k]
          simp (disch := omega) only [b52_91, b52_101, b52_113, b52_123, b52_138, b52_143, b52_146, b52_156, gO_k h1, gP_k h1 hl, gR_k h2, rdB_k h3 h3t, sA_s, sA_n h4, u3_sA, sA_sA, rdX_g1, rdX_g2, rdX_2, rdX_3, q1, hle, hdi, b2i_f, Jl0, Jl1, Jl2, Jl3, Jl4, Jl5, Jl6, Jl7, Jl8, Jl9, Jl10, Jl11, Jl12, Jl13, Jl14, Jl15, Jl16, Jl17, Jl18, Jl19, Jl20, Jl22, Jl24, Jl28, Jl30, Jl31, Jl32, Jl35, Jl36, Jl37, Jl38, Jl39, Jl40, Jl48, Jl57, Jl59, Jl60, Jl61, Jl63, Jl64, Jl68, Jl69, Jl96, Jl97, Jl98, Jl99, Jl100, Jl122, Jl149, Jl150, Jl165, Jl255, Jl511, Jl512, Jl600, Jl610, Jl940, Jl968, Jl999, Jl1134, Jl1152, Jl2048, Jl4608, Jl9999, Jl99999, Jl100000, Jl147456, Jl12345, Jl1103515245, Jl100000000, Jlm1, Jlm2, J_add, J_sub, J_mul, J_lt, J_le, J_eq, J_ite, J_cl, ri_j, wi_j, b2i_z, b2i_o, b2i_zo, Int.cast_ofNat_Int, Int.natCast_zero, Int.natCast_one, if_true, if_false, ite_self, Int.le_refl, J_bit, J_or, J_neg, J_oN, Int.reduceEq, Int.reduceLT, Int.reduceLE, Int.reduceNeg, Int.reduceAdd, Int.reduceSub, Int.reduceMul, Int.reduceToNat, J_shl, J_shr, V_ite, true_or, or_true, nz_j, J_div, J_rem, Option.bind_some, Option.toList_some, Option.toList_none, List.cons_append, List.nil_append, Jl21, Jl23, Jl25, Jl74, Jl83, Jl288, Jl324, Jl1800, Jlm8]
          repeat (first | rw [if_neg (by omega)] | rw [if_pos (by omega)])
        · have e8 : ¬ s8 (B w) = 59 := by rw [s8_eq q2 (by omega)]; exact k
          rw [if_neg k]
          simp (disch := omega) only [b52_91, b52_101, b52_113, b52_123, b52_142, b52_143, b52_146, b52_156, gO_k h1, gP_k h1 hl, gR_k h2, rdB_k h3 h3t, sA_s, sA_n h4, u3_sA, sA_sA, rdX_g1, rdX_g2, rdX_2, rdX_3, q1, hle, hdi, b2i_f, Jl0, Jl1, Jl2, Jl3, Jl4, Jl5, Jl6, Jl7, Jl8, Jl9, Jl10, Jl11, Jl12, Jl13, Jl14, Jl15, Jl16, Jl17, Jl18, Jl19, Jl20, Jl22, Jl24, Jl28, Jl30, Jl31, Jl32, Jl35, Jl36, Jl37, Jl38, Jl39, Jl40, Jl48, Jl57, Jl59, Jl60, Jl61, Jl63, Jl64, Jl68, Jl69, Jl96, Jl97, Jl98, Jl99, Jl100, Jl122, Jl149, Jl150, Jl165, Jl255, Jl511, Jl512, Jl600, Jl610, Jl940, Jl968, Jl999, Jl1134, Jl1152, Jl2048, Jl4608, Jl9999, Jl99999, Jl100000, Jl147456, Jl12345, Jl1103515245, Jl100000000, Jlm1, Jlm2, J_add, J_sub, J_mul, J_lt, J_le, J_eq, J_ite, J_cl, ri_j, wi_j, b2i_z, b2i_o, b2i_zo, Int.cast_ofNat_Int, Int.natCast_zero, Int.natCast_one, if_true, if_false, ite_self, Int.le_refl, J_bit, J_or, J_neg, J_oN, Int.reduceEq, Int.reduceLT, Int.reduceLE, Int.reduceNeg, Int.reduceAdd, Int.reduceSub, Int.reduceMul, Int.reduceToNat, J_shl, J_shr, V_ite, true_or, or_true, nz_j, J_div, J_rem, Option.bind_some, Option.toList_some, Option.toList_none, List.cons_append, List.nil_append, Jl21, Jl23, Jl25, Jl74, Jl83, Jl288, Jl324, Jl1800, Jlm8]
          repeat (first | rw [if_neg (by omega)] | rw [if_pos (by omega)])
theorem open_sp (hd : 4 ≤ d) (hR : ShRd μ r b) (hl : lo ≤ r) (hx : 0 ≤ x ∧ x ≤ 600) (hB : TpB I b B) : cl E lo d 51 [.ref r, .int (J (x))] (mj μ (sA I r X)) = some (none, mj μ (sA I r (nxX (u1 (u1 X 1 x) 2 0) B x 0))) := by
  obtain ⟨d, rfl⟩ : ∃ e, d = e + 1 := ⟨d - 1, by omega⟩
  have hn := next_sp (E := E) (lo := lo) (d := d) (I := I) (X := u1 (u1 X 1 x) 2 0) (B := B) (by omega) hR hl (by rw [u1_n (by omega), u1_s]; exact hx) (by rw [u1_s]; omega) hB
  rw [u1_s, u1_n (by omega), u1_s] at hn
  obtain ⟨h1, h2, h3, h4⟩ := hR
  have e1 : (if 600 < x then 600 else x) = x := if_neg (by omega)
  simp (disch := omega) only [e51, b51_0, b51_13, b51_18, b51_22, gO_k h1, gP_k h1 hl, gR_k h2, alen_k h3, sA_s, u3_sA, sA_sA, e1, hn, Jl0, Jl1, Jl2, Jl3, Jl4, Jl5, Jl6, Jl7, Jl8, Jl9, Jl10, Jl11, Jl12, Jl13, Jl14, Jl15, Jl16, Jl17, Jl18, Jl19, Jl20, Jl22, Jl24, Jl28, Jl30, Jl31, Jl32, Jl35, Jl36, Jl37, Jl38, Jl39, Jl40, Jl48, Jl57, Jl59, Jl60, Jl61, Jl63, Jl64, Jl68, Jl69, Jl96, Jl97, Jl98, Jl99, Jl100, Jl122, Jl149, Jl150, Jl165, Jl255, Jl511, Jl512, Jl600, Jl610, Jl940, Jl968, Jl999, Jl1134, Jl1152, Jl2048, Jl4608, Jl9999, Jl99999, Jl100000, Jl147456, Jl12345, Jl1103515245, Jl100000000, Jlm1, Jlm2, J_add, J_sub, J_mul, J_lt, J_le, J_eq, J_ite, J_cl, ri_j, wi_j, b2i_z, b2i_o, b2i_zo, Int.cast_ofNat_Int, Int.natCast_zero, Int.natCast_one, if_true, if_false, ite_self, Int.le_refl, J_bit, J_or, J_neg, J_oN, Int.reduceEq, Int.reduceLT, Int.reduceLE, Int.reduceNeg, Int.reduceAdd, Int.reduceSub, Int.reduceMul, Int.reduceToNat, J_shl, J_shr, V_ite, true_or, or_true, nz_j, J_div, J_rem, Option.bind_some, Option.toList_some, Option.toList_none, List.cons_append, List.nil_append, Jl21, Jl23, Jl25, Jl74, Jl83, Jl288, Jl324, Jl1800, Jlm8]
end READER
