/-! THE CLASS'S SCRIBE: a text is taken -/
def stC (I : Nat → Int → Int) (b : Nat) : Nat → Int → Int := sA (sA (sA (u3 (u3 (u3 (u3 I b 0 4) b 1 0) b 3 0) b 13 0) (b + 1) (flr (I (b + 1)) 0 64 0)) (b + 9) (flr (I (b + 9)) 0 9 (-1))) (b + 10) (flr (I (b + 10)) 0 9 (-1))
def laC (I : Nat → Int → Int) (b : Nat) : Nat → Int → Int := sA (u3 (u3 (u3 (u3 (u3 I b 0 0) b 1 999) b 2 0) b 3 0) b 4 0) (b + 1) (flr (I (b + 1)) 0 9 1)
section CLEAR
variable {E : (Nat → Value) × (Nat → Nat)} {lo d b c : Nat} {μ : rM} {I Z : Nat → Int → Int} {s ln w n : Int} {B : Int → Int}
theorem stc_sp (hd : 2 ≤ d) (hS : ShS μ b) (hl : lo ≤ b) : cl E lo d 78 [.ref b] (mj μ I) = some (none, mj μ (stC I b)) := by
  obtain ⟨d, rfl⟩ : ∃ e, d = e + 1 := ⟨d - 1, by omega⟩
  have f1 := fill_sp (E := E) (d := d) (lo := lo) (I := u3 (u3 (u3 (u3 I b 0 4) b 1 0) b 3 0) b 13 0) (v := 0) (by omega) (hS.2 (2, 1, 0, 64) (by decide)).2 (by dsimp only; omega) (by decide)
  rw [u3_c (by dsimp only; omega), u3_c (by dsimp only; omega), u3_c (by dsimp only; omega), u3_c (by dsimp only; omega)] at f1
  have f2 := fill_sp (E := E) (d := d) (lo := lo) (I := sA (u3 (u3 (u3 (u3 I b 0 4) b 1 0) b 3 0) b 13 0) (b + 1) (flr (I (b + 1)) 0 64 0)) (v := -1) (by omega) (hS.2 (11, 9, 0, 9) (by decide)).2 (by dsimp only; omega) (by decide)
  rw [sA_n (by dsimp only; omega), u3_c (by dsimp only; omega), u3_c (by dsimp only; omega), u3_c (by dsimp only; omega), u3_c (by dsimp only; omega)] at f2
  have f3 := fill_sp (E := E) (d := d) (lo := lo) (I := sA (sA (u3 (u3 (u3 (u3 I b 0 4) b 1 0) b 3 0) b 13 0) (b + 1) (flr (I (b + 1)) 0 64 0)) (b + 9) (flr (I (b + 9)) 0 9 (-1))) (v := -1) (by omega) (hS.2 (12, 10, 0, 9) (by decide)).2 (by dsimp only; omega) (by decide)
  rw [sA_n (by dsimp only; omega), sA_n (by dsimp only; omega), u3_c (by dsimp only; omega), u3_c (by dsimp only; omega), u3_c (by dsimp only; omega), u3_c (by dsimp only; omega)] at f3
  unfold stC
  simp (disch := omega) only [e78, b78_0, b78_5, b78_10, b78_15, b78_20, b78_28, b78_36, b78_44, gO_S hS, gR_S2 hS, gR_S4 hS, gR_S5 hS, gR_S6 hS, gR_S7 hS, gR_S8 hS, gR_S9 hS, gR_S10 hS, gR_S11 hS, gR_S12 hS, gR_S14 hS, gR_S15 hS, al_S1 hS, al_S2 hS, al_S3 hS, al_S4 hS, al_S5 hS, al_S6 hS, al_S7 hS, al_S8 hS, al_S9 hS, al_S10 hS, al_S11 hS, al_S12 hS, rd_S1 hS, rd_S2 hS, rd_S3 hS, rd_S4 hS, rd_S5 hS, rd_S6 hS, rd_S7 hS, rd_S8 hS, rd_S9 hS, rd_S10 hS, rd_S11 hS, rd_S12 hS, gP_S hS hl, wr_S1 hS hl, wr_S2 hS hl, wr_S3 hS hl, wr_S4 hS hl, wr_S5 hS hl, wr_S6 hS hl, wr_S7 hS hl, wr_S8 hS hl, wr_S9 hS hl, wr_S10 hS hl, wr_S11 hS hl, wr_S12 hS hl, f1, f2, f3, Jl0, Jl1, Jl2, Jl3, Jl4, Jl5, Jl6, Jl7, Jl8, Jl9, Jl10, Jl11, Jl12, Jl13, Jl14, Jl15, Jl16, Jl17, Jl18, Jl19, Jl20, Jl22, Jl24, Jl28, Jl30, Jl31, Jl32, Jl35, Jl36, Jl37, Jl38, Jl39, Jl40, Jl48, Jl57, Jl59, Jl60, Jl61, Jl63, Jl64, Jl68, Jl69, Jl96, Jl97, Jl98, Jl99, Jl100, Jl122, Jl149, Jl150, Jl165, Jl255, Jl511, Jl512, Jl600, Jl610, Jl940, Jl968, Jl999, Jl1134, Jl1152, Jl2048, Jl4608, Jl9999, Jl99999, Jl100000, Jl147456, Jl12345, Jl1103515245, Jl100000000, Jlm1, Jlm2, J_add, J_sub, J_mul, J_lt, J_le, J_eq, J_ite, J_cl, ri_j, wi_j, b2i_z, b2i_o, b2i_zo, Int.cast_ofNat_Int, Int.natCast_zero, Int.natCast_one, if_true, if_false, ite_self, Int.le_refl, J_bit, J_or, J_neg, J_oN, Int.reduceEq, Int.reduceLT, Int.reduceLE, Int.reduceNeg, Int.reduceAdd, Int.reduceSub, Int.reduceMul, Int.reduceToNat, J_shl, J_shr, V_ite, true_or, or_true, nz_j, J_div, J_rem, Option.bind_some, Option.toList_some, Option.toList_none, List.cons_append, List.nil_append, Jl21, Jl23, Jl25, Jl74, Jl83, Jl288, Jl324, Jl1800, Jlm8]
theorem lac_sp (hd : 2 ≤ d) (hS : ShL μ b) (hl : lo ≤ b) : cl E lo d 7 [.ref b] (mj μ I) = some (none, mj μ (laC I b)) := by
  obtain ⟨d, rfl⟩ : ∃ e, d = e + 1 := ⟨d - 1, by omega⟩
  have f1 := fill_sp (E := E) (d := d) (lo := lo) (I := u3 (u3 (u3 (u3 (u3 I b 0 0) b 1 999) b 2 0) b 3 0) b 4 0) (v := 1) (by omega) (hS.2 (5, 1, 0, 9) (by decide)).2 (by dsimp only; omega) (by decide)
  rw [u3_c (by dsimp only; omega), u3_c (by dsimp only; omega), u3_c (by dsimp only; omega), u3_c (by dsimp only; omega), u3_c (by dsimp only; omega)] at f1
  unfold laC
  simp (disch := omega) only [e7, b7_0, b7_5, b7_12, b7_17, b7_22, b7_27, b7_35, gO_L hS, gR_L5 hS, al_L1 hS, rd_L1 hS, gP_L hS hl, wr_L1 hS hl, f1, Jl0, Jl1, Jl2, Jl3, Jl4, Jl5, Jl6, Jl7, Jl8, Jl9, Jl10, Jl11, Jl12, Jl13, Jl14, Jl15, Jl16, Jl17, Jl18, Jl19, Jl20, Jl22, Jl24, Jl28, Jl30, Jl31, Jl32, Jl35, Jl36, Jl37, Jl38, Jl39, Jl40, Jl48, Jl57, Jl59, Jl60, Jl61, Jl63, Jl64, Jl68, Jl69, Jl96, Jl97, Jl98, Jl99, Jl100, Jl122, Jl149, Jl150, Jl165, Jl255, Jl511, Jl512, Jl600, Jl610, Jl940, Jl968, Jl999, Jl1134, Jl1152, Jl2048, Jl4608, Jl9999, Jl99999, Jl100000, Jl147456, Jl12345, Jl1103515245, Jl100000000, Jlm1, Jlm2, J_add, J_sub, J_mul, J_lt, J_le, J_eq, J_ite, J_cl, ri_j, wi_j, b2i_z, b2i_o, b2i_zo, Int.cast_ofNat_Int, Int.natCast_zero, Int.natCast_one, if_true, if_false, ite_self, Int.le_refl, J_bit, J_or, J_neg, J_oN, Int.reduceEq, Int.reduceLT, Int.reduceLE, Int.reduceNeg, Int.reduceAdd, Int.reduceSub, Int.reduceMul, Int.reduceToNat, J_shl, J_shr, V_ite, true_or, or_true, nz_j, J_div, J_rem, Option.bind_some, Option.toList_some, Option.toList_none, List.cons_append, List.nil_append, Jl21, Jl23, Jl25, Jl74, Jl83, Jl288, Jl324, Jl1800, Jlm8]
theorem roc_sp (hd : 1 ≤ d) (hS : ShR μ b) (hl : lo ≤ b) : cl E lo d 59 [.ref b] (mj μ I) = some (none, mj μ (u3 (u3 (u3 I b 0 0) b 1 0) b 2 0)) := by
  obtain ⟨d, rfl⟩ : ∃ e, d = e + 1 := ⟨d - 1, by omega⟩
  simp (disch := omega) only [e59, b59_0, b59_5, b59_10, b59_15, gO_R hS, gR_R3 hS, gR_R4 hS, al_R1 hS, al_R2 hS, rd_R1 hS, rd_R2 hS, gP_R hS hl, wr_R1 hS hl, wr_R2 hS hl, Jl0, Jl1, Jl2, Jl3, Jl4, Jl5, Jl6, Jl7, Jl8, Jl9, Jl10, Jl11, Jl12, Jl13, Jl14, Jl15, Jl16, Jl17, Jl18, Jl19, Jl20, Jl22, Jl24, Jl28, Jl30, Jl31, Jl32, Jl35, Jl36, Jl37, Jl38, Jl39, Jl40, Jl48, Jl57, Jl59, Jl60, Jl61, Jl63, Jl64, Jl68, Jl69, Jl96, Jl97, Jl98, Jl99, Jl100, Jl122, Jl149, Jl150, Jl165, Jl255, Jl511, Jl512, Jl600, Jl610, Jl940, Jl968, Jl999, Jl1134, Jl1152, Jl2048, Jl4608, Jl9999, Jl99999, Jl100000, Jl147456, Jl12345, Jl1103515245, Jl100000000, Jlm1, Jlm2, J_add, J_sub, J_mul, J_lt, J_le, J_eq, J_ite, J_cl, ri_j, wi_j, b2i_z, b2i_o, b2i_zo, Int.cast_ofNat_Int, Int.natCast_zero, Int.natCast_one, if_true, if_false, ite_self, Int.le_refl, J_bit, J_or, J_neg, J_oN, Int.reduceEq, Int.reduceLT, Int.reduceLE, Int.reduceNeg, Int.reduceAdd, Int.reduceSub, Int.reduceMul, Int.reduceToNat, J_shl, J_shr, V_ite, true_or, or_true, nz_j, J_div, J_rem, Option.bind_some, Option.toList_some, Option.toList_none, List.cons_append, List.nil_append, Jl21, Jl23, Jl25, Jl74, Jl83, Jl288, Jl324, Jl1800, Jlm8]
theorem cac_sp (hd : 1 ≤ d) (hS : ShC μ b) (hl : lo ≤ b) : cl E lo d 1 [.ref b] (mj μ I) = some (none, mj μ (u3 I b 0 0)) := by
  obtain ⟨d, rfl⟩ : ∃ e, d = e + 1 := ⟨d - 1, by omega⟩
  simp (disch := omega) only [e1, b1_0, b1_5, gO_C hS, gR_C1 hS, al_C1 hS, rd_C1 hS, gP_C hS hl, wr_C1 hS hl, Jl0, Jl1, Jl2, Jl3, Jl4, Jl5, Jl6, Jl7, Jl8, Jl9, Jl10, Jl11, Jl12, Jl13, Jl14, Jl15, Jl16, Jl17, Jl18, Jl19, Jl20, Jl22, Jl24, Jl28, Jl30, Jl31, Jl32, Jl35, Jl36, Jl37, Jl38, Jl39, Jl40, Jl48, Jl57, Jl59, Jl60, Jl61, Jl63, Jl64, Jl68, Jl69, Jl96, Jl97, Jl98, Jl99, Jl100, Jl122, Jl149, Jl150, Jl165, Jl255, Jl511, Jl512, Jl600, Jl610, Jl940, Jl968, Jl999, Jl1134, Jl1152, Jl2048, Jl4608, Jl9999, Jl99999, Jl100000, Jl147456, Jl12345, Jl1103515245, Jl100000000, Jlm1, Jlm2, J_add, J_sub, J_mul, J_lt, J_le, J_eq, J_ite, J_cl, ri_j, wi_j, b2i_z, b2i_o, b2i_zo, Int.cast_ofNat_Int, Int.natCast_zero, Int.natCast_one, if_true, if_false, ite_self, Int.le_refl, J_bit, J_or, J_neg, J_oN, Int.reduceEq, Int.reduceLT, Int.reduceLE, Int.reduceNeg, Int.reduceAdd, Int.reduceSub, Int.reduceMul, Int.reduceToNat, J_shl, J_shr, V_ite, true_or, or_true, nz_j, J_div, J_rem, Option.bind_some, Option.toList_some, Option.toList_none, List.cons_append, List.nil_append, Jl21, Jl23, Jl25, Jl74, Jl83, Jl288, Jl324, Jl1800, Jlm8]
theorem stC_sB : stC (sB I c 23 Z) (c + 2) = sB I c 23 (stC Z 2) := by
  unfold stC
  simp (disch := omega) only [Nat.add_assoc, Nat.reduceAdd, u3_sB, sB_c, sA_sB]
theorem laC_sB : laC (sB I c 23 Z) (c + 15) = sB I c 23 (laC Z 15) := by
  unfold laC
  simp (disch := omega) only [Nat.add_assoc, Nat.reduceAdd, u3_sB, sB_c, sA_sB]
def clZ (Z : Nat → Int → Int) : Nat → Int → Int := u3 (u3 (u3 (u3 (u3 (u3 (u3 (u3 (laC (stC Z 2) 15) 17 0 0) 17 1 0) 17 2 0) 20 0 0) 0 6 0) 0 7 (-1)) 0 8 0) 0 9 0
theorem scl_sp (hd : 3 ≤ d) (hX : ShX μ c b) (hl : lo ≤ c) : cl E lo d 64 [.ref c] (mj μ (sB I c 23 Z)) = some (none, mj μ (sB I c 23 (clZ Z))) := by
  obtain ⟨d, rfl⟩ : ∃ e, d = e + 1 := ⟨d - 1, by omega⟩
  obtain ⟨⟨hXk, hX0, hX1, hX2, hX3, hX4, hX5⟩, hXn, hXS, hXL, hXR, hXC, hXr⟩ := id hX
  have hlNu : lo ≤ c + 1 := by omega
  have hlS : lo ≤ c + 2 := by omega
  have hlL : lo ≤ c + 15 := by omega
  have hlR : lo ≤ c + 17 := by omega
  have hlC : lo ≤ c + 20 := by omega
  have h1 := stc_sp (E := E) (d := d) (lo := lo) (I := sB I c 23 Z) (by omega) hXS hlS
  rw [stC_sB] at h1
  have h2 := lac_sp (E := E) (d := d) (lo := lo) (I := sB I c 23 (stC Z 2)) (by omega) hXL hlL
  rw [laC_sB] at h2
  have h3 := roc_sp (E := E) (d := d) (lo := lo) (I := sB I c 23 (laC (stC Z 2) 15)) (by omega) hXR hlR
  have h4 := cac_sp (E := E) (d := d) (lo := lo) (I := sB I c 23 (u3 (u3 (u3 (laC (stC Z 2) 15) 17 0 0) 17 1 0) 17 2 0)) (by omega) hXC hlC
  unfold clZ
  simp (disch := omega) only [e64, b64_0, b64_7, b64_14, b64_21, b64_28, b64_33, b64_38, b64_43, b64_48, gO_k hXk, gP_k hXk hl, gR_k hX0, gR_k hX1, gR_k hX2, gR_k hX3, gR_k hX4, gR_k hX5, rdA_k hXn, wrA_k hXn hlNu, gO_k hXr.1, gO_S hXS, gR_S2 hXS, gR_S4 hXS, gR_S5 hXS, gR_S6 hXS, gR_S7 hXS, gR_S8 hXS, gR_S9 hXS, gR_S10 hXS, gR_S11 hXS, gR_S12 hXS, gR_S14 hXS, gR_S15 hXS, al_S1 hXS, al_S2 hXS, al_S3 hXS, al_S4 hXS, al_S5 hXS, al_S6 hXS, al_S7 hXS, al_S8 hXS, al_S9 hXS, al_S10 hXS, al_S11 hXS, al_S12 hXS, rd_S1 hXS, rd_S2 hXS, rd_S3 hXS, rd_S4 hXS, rd_S5 hXS, rd_S6 hXS, rd_S7 hXS, rd_S8 hXS, rd_S9 hXS, rd_S10 hXS, rd_S11 hXS, rd_S12 hXS, gP_S hXS hlS, wr_S1 hXS hlS, wr_S2 hXS hlS, wr_S3 hXS hlS, wr_S4 hXS hlS, wr_S5 hXS hlS, wr_S6 hXS hlS, wr_S7 hXS hlS, wr_S8 hXS hlS, wr_S9 hXS hlS, wr_S10 hXS hlS, wr_S11 hXS hlS, wr_S12 hXS hlS, gO_L hXL, gR_L5 hXL, al_L1 hXL, rd_L1 hXL, gP_L hXL hlL, wr_L1 hXL hlL, gO_R hXR, gR_R3 hXR, gR_R4 hXR, al_R1 hXR, al_R2 hXR, rd_R1 hXR, rd_R2 hXR, gP_R hXR hlR, wr_R1 hXR hlR, wr_R2 hXR hlR, gO_C hXC, gR_C1 hXC, al_C1 hXC, rd_C1 hXC, gP_C hXC hlC, wr_C1 hXC hlC, Nat.add_assoc, Nat.reduceAdd, sB_0, sB_c, u3_sB0, u3_sB, u3_s, u3_n, Nat.reduceLT, h1, h2, h3, h4, Jl0, Jl1, Jl2, Jl3, Jl4, Jl5, Jl6, Jl7, Jl8, Jl9, Jl10, Jl11, Jl12, Jl13, Jl14, Jl15, Jl16, Jl17, Jl18, Jl19, Jl20, Jl22, Jl24, Jl28, Jl30, Jl31, Jl32, Jl35, Jl36, Jl37, Jl38, Jl39, Jl40, Jl48, Jl57, Jl59, Jl60, Jl61, Jl63, Jl64, Jl68, Jl69, Jl96, Jl97, Jl98, Jl99, Jl100, Jl122, Jl149, Jl150, Jl165, Jl255, Jl511, Jl512, Jl600, Jl610, Jl940, Jl968, Jl999, Jl1134, Jl1152, Jl2048, Jl4608, Jl9999, Jl99999, Jl100000, Jl147456, Jl12345, Jl1103515245, Jl100000000, Jlm1, Jlm2, J_add, J_sub, J_mul, J_lt, J_le, J_eq, J_ite, J_cl, ri_j, wi_j, b2i_z, b2i_o, b2i_zo, Int.cast_ofNat_Int, Int.natCast_zero, Int.natCast_one, if_true, if_false, ite_self, Int.le_refl, J_bit, J_or, J_neg, J_oN, Int.reduceEq, Int.reduceLT, Int.reduceLE, Int.reduceNeg, Int.reduceAdd, Int.reduceSub, Int.reduceMul, Int.reduceToNat, J_shl, J_shr, V_ite, true_or, or_true, nz_j, J_div, J_rem, Option.bind_some, Option.toList_some, Option.toList_none, List.cons_append, List.nil_append, Jl21, Jl23, Jl25, Jl74, Jl83, Jl288, Jl324, Jl1800, Jlm8]
theorem clZ_f : clZ Z 22 = Z 22 ∧ clZ Z 0 6 = 0 ∧ clZ Z 0 7 = -1 ∧ Cl0 s (dZ s (clZ Z)) := by
  have z2 : clZ Z 2 = u3 (u3 (u3 (u3 Z 2 0 4) 2 1 0) 2 3 0) 2 13 0 2 := by
    unfold clZ laC stC
    simp (disch := omega) only [u3_c, sA_n]
  have z3 : clZ Z 3 = flr (Z 3) 0 64 0 := by
    unfold clZ laC stC
    simp (disch := omega) only [u3_c, sA_n, Nat.reduceAdd, sA_s]
  have z11 : clZ Z 11 = flr (Z 11) 0 9 (-1) := by
    unfold clZ laC stC
    simp (disch := omega) only [u3_c, sA_n, Nat.reduceAdd, sA_s]
  have z12 : clZ Z 12 = flr (Z 12) 0 9 (-1) := by
    unfold clZ laC stC
    simp (disch := omega) only [u3_c, sA_n, Nat.reduceAdd, sA_s]
  have z15 : clZ Z 15 = u3 (u3 (u3 (u3 (u3 Z 15 0 0) 15 1 999) 15 2 0) 15 3 0) 15 4 0 15 := by
    unfold clZ laC
    simp (disch := omega) only [u3_c, sA_n, Nat.reduceAdd]
    funext j
    unfold u3
    have : stC Z 2 15 j = Z 15 j := by
      unfold stC
      simp (disch := omega) only [u3_c, sA_n, Nat.reduceAdd]
    rw [this]
  have z16 : ∀ w, 0 ≤ w → w < 9 → clZ Z 16 w = 1 := fun w a b => by
    unfold clZ laC
    simp (disch := omega) only [u3_c, sA_n, Nat.reduceAdd, sA_s]
    exact if_pos ⟨a, b⟩
  refine ⟨?_, ?_, ?_, fun e => ?_, fun e => ?_, fun e => ?_, fun e => ?_⟩
  · unfold clZ laC stC
    simp (disch := omega) only [u3_c, sA_n, Nat.reduceAdd]
  · unfold clZ
    simp (disch := omega) only [u3_n, u3_s]
  · unfold clZ
    simp (disch := omega) only [u3_n, u3_s]
  · subst e
    show (clZ Z 0 8 = 0 ∧ clZ Z 0 9 = 0) ∧ (clZ Z 2 0 = 4 ∧ clZ Z 2 1 = 0 ∧ clZ Z 2 3 = 0 ∧ clZ Z 2 13 = 0) ∧ (∀ i, 0 ≤ i → i < 64 → clZ Z 3 i = 0) ∧ ∀ k, 0 ≤ k → k < 9 → clZ Z 11 k = -1 ∧ clZ Z 12 k = -1
    rw [z2, z3, z11, z12]
    refine ⟨?_, ?_, fun i a b => if_pos ⟨a, b⟩, fun k a b => ⟨if_pos ⟨a, b⟩, if_pos ⟨a, b⟩⟩⟩
    · unfold clZ
      simp (disch := omega) only [u3_n, u3_s]
      exact ⟨trivial, trivial⟩
    · simp (disch := omega) only [u3_n, u3_s]
      exact ⟨trivial, trivial, trivial, trivial⟩
  · subst e
    show (clZ Z 15 0 = 0 ∧ clZ Z 15 1 = 999 ∧ clZ Z 15 2 = 0 ∧ clZ Z 15 3 = 0 ∧ clZ Z 15 4 = 0) ∧ ∀ w, 0 ≤ w → w < 9 → clZ Z 16 w = 1
    rw [z15]
    refine ⟨?_, z16⟩
    simp (disch := omega) only [u3_n, u3_s]
    exact ⟨trivial, trivial, trivial, trivial, trivial⟩
  · subst e
    show clZ Z 17 0 = 0 ∧ clZ Z 17 1 = 0 ∧ clZ Z 17 2 = 0
    unfold clZ
    simp (disch := omega) only [u3_n, u3_s]
    exact ⟨trivial, trivial, trivial⟩
  · subst e
    show clZ Z 20 0 = 0
    unfold clZ
    simp (disch := omega) only [u3_n, u3_s]
theorem fuZ_D (hs : 0 ≤ s ∧ s < 4) (hln : fiL s ≤ ln ∧ ln ≤ laL s) : fuZ Z ln = fuD s ln (dZ s Z) := by
  have hs' : s = 0 ∨ s = 1 ∨ s = 2 ∨ s = 3 := by omega
  rcases hs' with rfl | rfl | rfl | rfl
  · have e1 : fiL 0 = 0 := rfl
    have e2 : laL 0 = 9 := rfl
    show _ = decide ((ln = 7 ∧ 8 ≤ Z 2 13) ∨ ((3 ≤ ln ∧ ln ≤ 6) ∧ 9 ≤ Z 2 3))
    unfold fuZ
    by_cases q : ln = 7
    · rw [if_pos q]
      apply decide_eq_decide.mpr
      omega
    · rw [if_neg q, if_neg (by omega), if_neg (by omega)]
      apply decide_eq_decide.mpr
      omega
  · have e1 : fiL 1 = 10 := rfl
    have e2 : laL 1 = 15 := rfl
    show _ = false
    unfold fuZ
    rw [if_neg (by omega), if_neg (by omega), if_neg (by omega)]
    exact decide_eq_false (by omega)
  · have e1 : fiL 2 = 16 := rfl
    have e2 : laL 2 = 19 := rfl
    show _ = decide ((17 ≤ ln ∧ ln ≤ 19) ∧ 40 ≤ Z 17 2)
    unfold fuZ
    rw [if_neg (by omega)]
    by_cases q : 17 ≤ ln ∧ ln ≤ 19
    · rw [if_pos q]
      apply decide_eq_decide.mpr
      omega
    · rw [if_neg q, if_neg (by omega)]
      apply decide_eq_decide.mpr
      omega
  · have e1 : fiL 3 = 20 := rfl
    have e2 : laL 3 = 21 := rfl
    show _ = decide (8 ≤ Z 20 0)
    unfold fuZ
    rw [if_neg (by omega), if_neg (by omega), if_pos (by omega)]
theorem tlD_c {V V' : Int → Int} {D : (Nat → Int → Int) × Int × Int} (hs : 0 ≤ s ∧ s < 4) (hln : fiL s ≤ ln ∧ ln ≤ laL s) (h : ∀ j, 0 ≤ j → j < (nOf ln : Int) → V j = V' j) : tlD s ln V D = tlD s ln V' D := by
  have hs' : s = 0 ∨ s = 1 ∨ s = 2 ∨ s = 3 := by omega
  rcases hs' with rfl | rfl | rfl | rfl
  · have e1 : fiL 0 = 0 := rfl
    have e2 : laL 0 = 9 := rfl
    by_cases cs : 3 ≤ ln ∧ ln ≤ 6
    · have hl4 : ln = 3 ∨ ln = 4 ∨ ln = 5 ∨ ln = 6 := by omega
      have hn : nOf ln = 6 := by rcases hl4 with e | e | e | e <;> rw [e] <;> rfl
      have h0 := h 0 (by omega) (by omega)
      have h1 := h 1 (by omega) (by omega)
      have h2 := h 2 (by omega) (by omega)
      have h3 := h 3 (by omega) (by omega)
      have h4 := h 4 (by omega) (by omega)
      have h5 := h 5 (by omega) (by omega)
      unfold tlD tlS tlH tlB
      rw [h0, h1, h2, h3, h4, h5]
      rfl
    · have : ln = 0 ∨ ln = 1 ∨ ln = 2 ∨ ln = 7 ∨ ln = 8 ∨ ln = 9 := by omega
      rcases this with rfl | rfl | rfl | rfl | rfl | rfl
      · have h0 := h 0 (by omega) (by decide)
        show (u3 D.1 0 0 (V 0), D.2.1, D.2.2) = (u3 D.1 0 0 (V' 0), D.2.1, D.2.2)
        rw [h0]
      · have h0 := h 0 (by omega) (by decide)
        have h1 := h 1 (by omega) (by decide)
        have h2 := h 2 (by omega) (by decide)
        unfold tlD tlS tlH tlB
        rw [h0, h1, h2]
        rfl
      · have h0 := h 0 (by omega) (by decide)
        show (u3 D.1 0 1 (so (D.1 0 1) (p2 (V 0))), so D.2.1 (p2 (V 0)), D.2.2) = (u3 D.1 0 1 (so (D.1 0 1) (p2 (V' 0))), so D.2.1 (p2 (V' 0)), D.2.2)
        rw [h0]
      · have h0 := h 0 (by omega) (by decide)
        have h1 := h 1 (by omega) (by decide)
        show (u3 (u3 (u3 D.1 11 (D.1 0 13) (V 0)) 12 (D.1 0 13) (V 1)) 0 13 (D.1 0 13 + 1), D.2.1, so D.2.2 (p2 (V 0))) = (u3 (u3 (u3 D.1 11 (D.1 0 13) (V' 0)) 12 (D.1 0 13) (V' 1)) 0 13 (D.1 0 13 + 1), D.2.1, so D.2.2 (p2 (V' 0)))
        rw [h0, h1]
      · have h0 := h 0 (by omega) (by decide)
        have h1 := h 1 (by omega) (by decide)
        show (u3 D.1 9 (V 0) (V 1), D.2.1, so D.2.2 (p2 (V 0))) = (u3 D.1 9 (V' 0) (V' 1), D.2.1, so D.2.2 (p2 (V' 0)))
        rw [h0, h1]
      · have h0 := h 0 (by omega) (by decide)
        have h1 := h 1 (by omega) (by decide)
        show (u3 D.1 10 (V 0) (V 1), D.2.1, so D.2.2 (so (p2 (V 0)) (p2 (V 1)))) = (u3 D.1 10 (V' 0) (V' 1), D.2.1, so D.2.2 (so (p2 (V' 0)) (p2 (V' 1))))
        rw [h0, h1]
  · have e1 : fiL 1 = 10 := rfl
    have e2 : laL 1 = 15 := rfl
    have : ln = 10 ∨ ln = 11 ∨ ln = 12 ∨ ln = 13 ∨ ln = 14 ∨ ln = 15 := by omega
    rcases this with rfl | rfl | rfl | rfl | rfl | rfl
    · show (u3 D.1 0 0 (V 0), D.2) = (u3 D.1 0 0 (V' 0), D.2)
      rw [h 0 (by omega) (by decide)]
    · show (u3 D.1 0 1 (V 0), D.2) = (u3 D.1 0 1 (V' 0), D.2)
      rw [h 0 (by omega) (by decide)]
    · show (u3 D.1 0 2 (V 0), D.2) = (u3 D.1 0 2 (V' 0), D.2)
      rw [h 0 (by omega) (by decide)]
    · show (u3 D.1 0 3 (so (D.1 0 3) (p2 (V 0))), D.2) = (u3 D.1 0 3 (so (D.1 0 3) (p2 (V' 0))), D.2)
      rw [h 0 (by omega) (by decide)]
    · show (u3 D.1 1 (V 0) (V 1), D.2) = (u3 D.1 1 (V' 0) (V' 1), D.2)
      rw [h 0 (by omega) (by decide), h 1 (by omega) (by decide)]
    · rfl
  · have e1 : fiL 2 = 16 := rfl
    have e2 : laL 2 = 19 := rfl
    have : ln = 16 ∨ ln = 17 ∨ ln = 18 ∨ ln = 19 := by omega
    rcases this with rfl | rfl | rfl | rfl
    · show (u3 (u3 D.1 0 0 (V 0)) 0 1 (V 1), D.2) = (u3 (u3 D.1 0 0 (V' 0)) 0 1 (V' 1), D.2)
      rw [h 0 (by omega) (by decide), h 1 (by omega) (by decide)]
    · show (adR D.1 0 (V 0), D.2) = (adR D.1 0 (V' 0), D.2)
      rw [h 0 (by omega) (by decide)]
    · rfl
    · show (adR D.1 2 (V 0), D.2) = (adR D.1 2 (V' 0), D.2)
      rw [h 0 (by omega) (by decide)]
  · have e1 : fiL 3 = 20 := rfl
    have e2 : laL 3 = 21 := rfl
    have h0 : V 0 = V' 0 := by
      have : ln = 20 ∨ ln = 21 := by omega
      rcases this with rfl | rfl
      · exact h 0 (by omega) (by decide)
      · exact h 0 (by omega) (by decide)
    show (tlC ln V D.1, D.2) = (tlC ln V' D.1, D.2)
    unfold tlC
    rw [h0]
theorem dz_i (hs : 0 ≤ s ∧ s < 4) (hln : fiL s ≤ ln ∧ ln ≤ laL s) (hD : DI s (dZ s Z)) : (ln = 7 → i32 (Z 2 13)) ∧ (17 ≤ ln ∧ ln ≤ 19 → i32 (Z 17 2)) ∧ (20 ≤ ln → i32 (Z 20 0)) ∧ (3 ≤ ln ∧ ln ≤ 6 → i32 (Z 2 3)) := by
  have hs' : s = 0 ∨ s = 1 ∨ s = 2 ∨ s = 3 := by omega
  unfold i32
  rcases hs' with rfl | rfl | rfl | rfl
  · have e1 : fiL 0 = 0 := rfl
    have e2 : laL 0 = 9 := rfl
    have h := (hD.1 rfl).1
    have e3 : (dZ 0 Z).1 0 13 = Z 2 13 := rfl
    have e4 : (dZ 0 Z).1 0 3 = Z 2 3 := rfl
    exact ⟨fun _ => by omega, fun _ => by omega, fun _ => by omega, fun _ => by omega⟩
  · have e1 : fiL 1 = 10 := rfl
    have e2 : laL 1 = 15 := rfl
    exact ⟨fun _ => by omega, fun _ => by omega, fun _ => by omega, fun _ => by omega⟩
  · have e1 : fiL 2 = 16 := rfl
    have e2 : laL 2 = 19 := rfl
    have h := (hD.2.2.1 rfl).1
    have e3 : (dZ 2 Z).1 0 2 = Z 17 2 := rfl
    exact ⟨fun _ => by omega, fun _ => by omega, fun _ => by omega, fun _ => by omega⟩
  · have e1 : fiL 3 = 20 := rfl
    have e2 : laL 3 = 21 := rfl
    have h := (hD.2.2.2 rfl).1
    have e3 : (dZ 3 Z).1 0 0 = Z 20 0 := rfl
    exact ⟨fun _ => by omega, fun _ => by omega, fun _ => by omega, fun _ => by omega⟩
/-- a line -/
theorem tkl_sp (hd : 9 ≤ d) (hX : ShX μ c b) (hl : lo ≤ c) (hb : b < c) (hB : TpB I b B) (hn : n ≤ 600) (hSt : Sta E lo μ I) (hs : 0 ≤ s ∧ s < 4) (hR : RX B n (Z 22) w) (h6 : i32 (Z 0 6)) (hD : DI s (dZ s Z)) (ht : ¬ tT B n w = 0) : (¬ (tT B n w = 3 ∧ fiL s + 1 ≤ wdC B w (tE B n w) ∧ wdC B w (tE B n w) ≤ laL s + 1) → cl E lo d 65 [.ref c, .int (J (s))] (mj μ (sB I c 23 Z)) = some (some (.int (J 0)), mj μ (sB I c 23 Z))) ∧ ((tT B n w = 3 ∧ fiL s + 1 ≤ wdC B w (tE B n w) ∧ wdC B w (tE B n w) ≤ laL s + 1) → (∀ p, lnW B n (nOf (wdC B w (tE B n w) - 1)) (nx B n w) = some p → ∃ Z', cl E lo d 65 [.ref c, .int (J (s))] (mj μ (sB I c 23 Z)) = some (some (.int (J 0)), mj μ (sB I c 23 Z')) ∧ Z' 22 4 = p ∧ dZ s Z' = dZ s Z) ∧ (lnW B n (nOf (wdC B w (tE B n w) - 1)) (nx B n w) = none → ∃ Z', cl E lo d 65 [.ref c, .int (J (s))] (mj μ (sB I c 23 Z)) = some (some (.int (J 1)), mj μ (sB I c 23 Z')) ∧ RX B n (Z' 22) (enW B n (nOf (wdC B w (tE B n w) - 1)) (nx B n w)) ∧ (Z' 0 6, Z' 0 7) = lnQ B n w (wdC B w (tE B n w) - 1) (fuD s (wdC B w (tE B n w) - 1) (dZ s Z)) (Z 0 6, Z 0 7) ∧ i32 (Z' 0 6) ∧ dZ s Z' = (if (lnQ B n w (wdC B w (tE B n w) - 1) (fuD s (wdC B w (tE B n w) - 1) (dZ s Z)) (Z 0 6, Z 0 7)).1 = 0 then tlD s (wdC B w (tE B n w) - 1) (vv B n (nx B n w)) (dZ s Z) else dZ s Z))) := by
  obtain ⟨d, rfl⟩ : ∃ e, d = e + 1 := ⟨d - 1, by omega⟩
  have hlh := lh_sp (E := E) (lo := lo) (d := d) (I := I) (Z := Z) (by omega) hX hl hb hB hn hSt hs hR
  obtain ⟨⟨hXk, hX0, hX1, hX2, hX3, hX4, hX5⟩, hXn, hXS, hXL, hXR, hXC, hXr⟩ := id hX
  have hlNu : lo ≤ c + 1 := by omega
  have hlS : lo ≤ c + 2 := by omega
  have hlL : lo ≤ c + 15 := by omega
  have hlR : lo ≤ c + 17 := by omega
  have hlC : lo ≤ c + 20 := by omega
  have fb : 0 ≤ fiL s ∧ laL s ≤ 21 := by
    have hs' : s = 0 ∨ s = 1 ∨ s = 2 ∨ s = 3 := by omega
    rcases hs' with rfl | rfl | rfl | rfl <;> decide
  refine ⟨fun hg => ?_, fun hg => ?_⟩
  · rw [if_neg hg] at hlh
    simp (disch := omega) only [b65_0, b65_5, b65_16, e65, gO_k hXk, gP_k hXk hl, gR_k hX0, gR_k hX1, gR_k hX2, gR_k hX3, gR_k hX4, gR_k hX5, rdA_k hXn, wrA_k hXn hlNu, gO_k hXr.1, gO_S hXS, gR_S2 hXS, gR_S4 hXS, gR_S5 hXS, gR_S6 hXS, gR_S7 hXS, gR_S8 hXS, gR_S9 hXS, gR_S10 hXS, gR_S11 hXS, gR_S12 hXS, gR_S14 hXS, gR_S15 hXS, al_S1 hXS, al_S2 hXS, al_S3 hXS, al_S4 hXS, al_S5 hXS, al_S6 hXS, al_S7 hXS, al_S8 hXS, al_S9 hXS, al_S10 hXS, al_S11 hXS, al_S12 hXS, rd_S1 hXS, rd_S2 hXS, rd_S3 hXS, rd_S4 hXS, rd_S5 hXS, rd_S6 hXS, rd_S7 hXS, rd_S8 hXS, rd_S9 hXS, rd_S10 hXS, rd_S11 hXS, rd_S12 hXS, gP_S hXS hlS, wr_S1 hXS hlS, wr_S2 hXS hlS, wr_S3 hXS hlS, wr_S4 hXS hlS, wr_S5 hXS hlS, wr_S6 hXS hlS, wr_S7 hXS hlS, wr_S8 hXS hlS, wr_S9 hXS hlS, wr_S10 hXS hlS, wr_S11 hXS hlS, wr_S12 hXS hlS, gO_L hXL, gR_L5 hXL, al_L1 hXL, rd_L1 hXL, gP_L hXL hlL, wr_L1 hXL hlL, gO_R hXR, gR_R3 hXR, gR_R4 hXR, al_R1 hXR, al_R2 hXR, rd_R1 hXR, rd_R2 hXR, gP_R hXR hlR, wr_R1 hXR hlR, wr_R2 hXR hlR, gO_C hXC, gR_C1 hXC, al_C1 hXC, rd_C1 hXC, gP_C hXC hlC, wr_C1 hXC hlC, Nat.add_assoc, Nat.reduceAdd, sB_0, sB_c, u3_sB0, u3_sB, u3_s, u3_n, Nat.reduceLT, hlh, Jl0, Jl1, Jl2, Jl3, Jl4, Jl5, Jl6, Jl7, Jl8, Jl9, Jl10, Jl11, Jl12, Jl13, Jl14, Jl15, Jl16, Jl17, Jl18, Jl19, Jl20, Jl22, Jl24, Jl28, Jl30, Jl31, Jl32, Jl35, Jl36, Jl37, Jl38, Jl39, Jl40, Jl48, Jl57, Jl59, Jl60, Jl61, Jl63, Jl64, Jl68, Jl69, Jl96, Jl97, Jl98, Jl99, Jl100, Jl122, Jl149, Jl150, Jl165, Jl255, Jl511, Jl512, Jl600, Jl610, Jl940, Jl968, Jl999, Jl1134, Jl1152, Jl2048, Jl4608, Jl9999, Jl99999, Jl100000, Jl147456, Jl12345, Jl1103515245, Jl100000000, Jlm1, Jlm2, J_add, J_sub, J_mul, J_lt, J_le, J_eq, J_ite, J_cl, ri_j, wi_j, b2i_z, b2i_o, b2i_zo, Int.cast_ofNat_Int, Int.natCast_zero, Int.natCast_one, if_true, if_false, ite_self, Int.le_refl, J_bit, J_or, J_neg, J_oN, Int.reduceEq, Int.reduceLT, Int.reduceLE, Int.reduceNeg, Int.reduceAdd, Int.reduceSub, Int.reduceMul, Int.reduceToNat, J_shl, J_shr, V_ite, true_or, or_true, nz_j, J_div, J_rem, Option.bind_some, Option.toList_some, Option.toList_none, List.cons_append, List.nil_append, Jl21, Jl23, Jl25, Jl74, Jl83, Jl288, Jl324, Jl1800, Jlm8]
    repeat (first | rw [if_neg (by omega)] | rw [if_pos (by omega)])
  · rw [if_pos hg] at hlh
    obtain ⟨ln, hln⟩ : ∃ ln, ln = wdC B w (tE B n w) - 1 := ⟨_, rfl⟩
    rw [← hln] at hlh ⊢
    have lnb : fiL s ≤ ln ∧ ln ≤ laL s := by omega
    have hful := ful_sp (E := E) (lo := lo) (d := d) (I := I) (Z := Z) (ln := ln) (by omega) hX hl (by omega) (dz_i hs lnb hD)
    rw [fuZ_D hs lnb] at hful
    have hnt := note_sp (E := E) (lo := lo) (d := d) (I := I) (Z := Z) (k := 3) (p := Z 22 4) (by omega) hX hl h6
    obtain ⟨full, hfu⟩ : ∃ f, f = fuD s ln (dZ s Z) := ⟨_, rfl⟩
    rw [← hfu] at hful ⊢
    obtain ⟨Z1, hZ1⟩ : ∃ Z1, Z1 = if full = true then ntZ Z 3 (Z 22 4) else Z := ⟨_, rfl⟩
    have s1 : cl E lo (d + 1) 65 [.ref c, .int (J s)] (mj μ (sB I c 23 Z)) = ex PG E lo d 65 40 [some (.ref c), some (.int (J (s))), some (.int (J (ln))), some (.int (J (0)))] [] (mj μ (sB I c 23 Z1)) := by
      rw [hZ1]
      cases full with
      | false =>
        simp (disch := omega) only [b65_0, b65_5, b65_10, b65_18, b65_23, b65_38, e65, gO_k hXk, gP_k hXk hl, gR_k hX0, gR_k hX1, gR_k hX2, gR_k hX3, gR_k hX4, gR_k hX5, rdA_k hXn, wrA_k hXn hlNu, gO_k hXr.1, gO_S hXS, gR_S2 hXS, gR_S4 hXS, gR_S5 hXS, gR_S6 hXS, gR_S7 hXS, gR_S8 hXS, gR_S9 hXS, gR_S10 hXS, gR_S11 hXS, gR_S12 hXS, gR_S14 hXS, gR_S15 hXS, al_S1 hXS, al_S2 hXS, al_S3 hXS, al_S4 hXS, al_S5 hXS, al_S6 hXS, al_S7 hXS, al_S8 hXS, al_S9 hXS, al_S10 hXS, al_S11 hXS, al_S12 hXS, rd_S1 hXS, rd_S2 hXS, rd_S3 hXS, rd_S4 hXS, rd_S5 hXS, rd_S6 hXS, rd_S7 hXS, rd_S8 hXS, rd_S9 hXS, rd_S10 hXS, rd_S11 hXS, rd_S12 hXS, gP_S hXS hlS, wr_S1 hXS hlS, wr_S2 hXS hlS, wr_S3 hXS hlS, wr_S4 hXS hlS, wr_S5 hXS hlS, wr_S6 hXS hlS, wr_S7 hXS hlS, wr_S8 hXS hlS, wr_S9 hXS hlS, wr_S10 hXS hlS, wr_S11 hXS hlS, wr_S12 hXS hlS, gO_L hXL, gR_L5 hXL, al_L1 hXL, rd_L1 hXL, gP_L hXL hlL, wr_L1 hXL hlL, gO_R hXR, gR_R3 hXR, gR_R4 hXR, al_R1 hXR, al_R2 hXR, rd_R1 hXR, rd_R2 hXR, gP_R hXR hlR, wr_R1 hXR hlR, wr_R2 hXR hlR, gO_C hXC, gR_C1 hXC, al_C1 hXC, rd_C1 hXC, gP_C hXC hlC, wr_C1 hXC hlC, Nat.add_assoc, Nat.reduceAdd, sB_0, sB_c, u3_sB0, u3_sB, u3_s, u3_n, Nat.reduceLT, hlh, hful, b2i_f, Bool.false_eq_true, Jl0, Jl1, Jl2, Jl3, Jl4, Jl5, Jl6, Jl7, Jl8, Jl9, Jl10, Jl11, Jl12, Jl13, Jl14, Jl15, Jl16, Jl17, Jl18, Jl19, Jl20, Jl22, Jl24, Jl28, Jl30, Jl31, Jl32, Jl35, Jl36, Jl37, Jl38, Jl39, Jl40, Jl48, Jl57, Jl59, Jl60, Jl61, Jl63, Jl64, Jl68, Jl69, Jl96, Jl97, Jl98, Jl99, Jl100, Jl122, Jl149, Jl150, Jl165, Jl255, Jl511, Jl512, Jl600, Jl610, Jl940, Jl968, Jl999, Jl1134, Jl1152, Jl2048, Jl4608, Jl9999, Jl99999, Jl100000, Jl147456, Jl12345, Jl1103515245, Jl100000000, Jlm1, Jlm2, J_add, J_sub, J_mul, J_lt, J_le, J_eq, J_ite, J_cl, ri_j, wi_j, b2i_z, b2i_o, b2i_zo, Int.cast_ofNat_Int, Int.natCast_zero, Int.natCast_one, if_true, if_false, ite_self, Int.le_refl, J_bit, J_or, J_neg, J_oN, Int.reduceEq, Int.reduceLT, Int.reduceLE, Int.reduceNeg, Int.reduceAdd, Int.reduceSub, Int.reduceMul, Int.reduceToNat, J_shl, J_shr, V_ite, true_or, or_true, nz_j, J_div, J_rem, Option.bind_some, Option.toList_some, Option.toList_none, List.cons_append, List.nil_append, Jl21, Jl23, Jl25, Jl74, Jl83, Jl288, Jl324, Jl1800, Jlm8]
        repeat (first | rw [if_neg (by omega)] | rw [if_pos (by omega)])
      | true =>
        simp (disch := omega) only [b65_0, b65_5, b65_10, b65_18, b65_23, b65_26, b65_38, e65, gO_k hXk, gP_k hXk hl, gR_k hX0, gR_k hX1, gR_k hX2, gR_k hX3, gR_k hX4, gR_k hX5, rdA_k hXn, wrA_k hXn hlNu, gO_k hXr.1, gO_S hXS, gR_S2 hXS, gR_S4 hXS, gR_S5 hXS, gR_S6 hXS, gR_S7 hXS, gR_S8 hXS, gR_S9 hXS, gR_S10 hXS, gR_S11 hXS, gR_S12 hXS, gR_S14 hXS, gR_S15 hXS, al_S1 hXS, al_S2 hXS, al_S3 hXS, al_S4 hXS, al_S5 hXS, al_S6 hXS, al_S7 hXS, al_S8 hXS, al_S9 hXS, al_S10 hXS, al_S11 hXS, al_S12 hXS, rd_S1 hXS, rd_S2 hXS, rd_S3 hXS, rd_S4 hXS, rd_S5 hXS, rd_S6 hXS, rd_S7 hXS, rd_S8 hXS, rd_S9 hXS, rd_S10 hXS, rd_S11 hXS, rd_S12 hXS, gP_S hXS hlS, wr_S1 hXS hlS, wr_S2 hXS hlS, wr_S3 hXS hlS, wr_S4 hXS hlS, wr_S5 hXS hlS, wr_S6 hXS hlS, wr_S7 hXS hlS, wr_S8 hXS hlS, wr_S9 hXS hlS, wr_S10 hXS hlS, wr_S11 hXS hlS, wr_S12 hXS hlS, gO_L hXL, gR_L5 hXL, al_L1 hXL, rd_L1 hXL, gP_L hXL hlL, wr_L1 hXL hlL, gO_R hXR, gR_R3 hXR, gR_R4 hXR, al_R1 hXR, al_R2 hXR, rd_R1 hXR, rd_R2 hXR, gP_R hXR hlR, wr_R1 hXR hlR, wr_R2 hXR hlR, gO_C hXC, gR_C1 hXC, al_C1 hXC, rd_C1 hXC, gP_C hXC hlC, wr_C1 hXC hlC, Nat.add_assoc, Nat.reduceAdd, sB_0, sB_c, u3_sB0, u3_sB, u3_s, u3_n, Nat.reduceLT, hlh, hful, b2i_t, hnt, Jl0, Jl1, Jl2, Jl3, Jl4, Jl5, Jl6, Jl7, Jl8, Jl9, Jl10, Jl11, Jl12, Jl13, Jl14, Jl15, Jl16, Jl17, Jl18, Jl19, Jl20, Jl22, Jl24, Jl28, Jl30, Jl31, Jl32, Jl35, Jl36, Jl37, Jl38, Jl39, Jl40, Jl48, Jl57, Jl59, Jl60, Jl61, Jl63, Jl64, Jl68, Jl69, Jl96, Jl97, Jl98, Jl99, Jl100, Jl122, Jl149, Jl150, Jl165, Jl255, Jl511, Jl512, Jl600, Jl610, Jl940, Jl968, Jl999, Jl1134, Jl1152, Jl2048, Jl4608, Jl9999, Jl99999, Jl100000, Jl147456, Jl12345, Jl1103515245, Jl100000000, Jlm1, Jlm2, J_add, J_sub, J_mul, J_lt, J_le, J_eq, J_ite, J_cl, ri_j, wi_j, b2i_z, b2i_o, b2i_zo, Int.cast_ofNat_Int, Int.natCast_zero, Int.natCast_one, if_true, if_false, ite_self, Int.le_refl, J_bit, J_or, J_neg, J_oN, Int.reduceEq, Int.reduceLT, Int.reduceLE, Int.reduceNeg, Int.reduceAdd, Int.reduceSub, Int.reduceMul, Int.reduceToNat, J_shl, J_shr, V_ite, true_or, or_true, nz_j, J_div, J_rem, Option.bind_some, Option.toList_some, Option.toList_none, List.cons_append, List.nil_append, Jl21, Jl23, Jl25, Jl74, Jl83, Jl288, Jl324, Jl1800, Jlm8]
        repeat (first | rw [if_neg (by omega)] | rw [if_pos (by omega)])
    have z1n : NuF Z Z1 := by
      rw [hZ1]
      split
      · exact NuF_nt
      · exact NuF_r
    have z122 : Z1 22 = Z 22 := by
      rw [hZ1]
      split
      · exact ntZ_c (by decide)
      · rfl
    have z1q : (Z1 0 6, Z1 0 7) = fq (Z 0 6, Z 0 7) full w := by
      rw [hZ1]
      unfold fq
      cases full with
      | false => rw [if_neg (by decide), if_neg (by simp)]
      | true =>
        rw [if_pos rfl, ntZ_q, hR.1.2.2.2]
        by_cases q : Z 0 6 = 0
        · rw [if_pos q, if_pos ⟨q, rfl⟩]
        · rw [if_neg q, if_neg (fun z => q z.1)]
    have z16 : i32 (Z1 0 6) := by
      have e := congrArg Prod.fst z1q
      dsimp only at e
      rw [e]
      unfold fq
      split
      · unfold i32; dsimp only; omega
      · exact h6
    have L := nl_lp (E := E) (lo := lo) (d := d) (I := I) (s := s) (w := w) (B := B) (n := n) (by omega) hX hl hb hB hn hSt (ln := ln) (by omega) (nOf ln) 0 Z1 w (by omega) (by rw [z122]; exact hR) rfl (fun j a b => by omega) (fun j a b => by omega) z16
    rw [show ((0 : Nat) : Int) = 0 from rfl] at L
    refine ⟨fun p hp => ?_, fun hp => ?_⟩
    · obtain ⟨Z', a1, a2, a3⟩ := L.1 p hp
      exact ⟨Z', s1.trans a1, a2, NuF_d (NuF_t z1n a3)⟩
    · obtain ⟨Z2, a1, a2, a3, a4, a5, a6⟩ := L.2 hp
      rw [z1q] at a3
      have a3' : (Z2 0 6, Z2 0 7) = lnQ B n w ln full (Z 0 6, Z 0 7) := a3
      have d2 : dZ s Z2 = dZ s Z := NuF_d (NuF_t z1n a6)
      have e6 : Z2 0 6 = (lnQ B n w ln full (Z 0 6, Z 0 7)).1 := congrArg Prod.fst a3'
      have i6 := a5
      unfold i32 at i6
      have fin : ∀ Z3 : Nat → Int → Int, Z3 22 = Z2 22 → ex PG E lo d 65 147 [some (.ref c), some (.int (J (s))), some (.int (J (ln))), some (.int (J ((nOf ln))))] [] (mj μ (sB I c 23 Z3)) = some (some (.int (J 1)), mj μ (sB I c 23 (sA Z3 22 (nxX (Z3 22) B (Z3 22 1) (Z3 22 2))))) := fun Z3 h3 => by
        have hx := nxt_sp (E := E) (lo := lo) (d := d) (I := I) (Z := Z3) (by omega) hX hl hb hB hn (by rw [h3]; exact a2)
        simp (disch := omega) only [b65_147, b65_154, gO_k hXk, gP_k hXk hl, gR_k hX0, gR_k hX1, gR_k hX2, gR_k hX3, gR_k hX4, gR_k hX5, rdA_k hXn, wrA_k hXn hlNu, gO_k hXr.1, gO_S hXS, gR_S2 hXS, gR_S4 hXS, gR_S5 hXS, gR_S6 hXS, gR_S7 hXS, gR_S8 hXS, gR_S9 hXS, gR_S10 hXS, gR_S11 hXS, gR_S12 hXS, gR_S14 hXS, gR_S15 hXS, al_S1 hXS, al_S2 hXS, al_S3 hXS, al_S4 hXS, al_S5 hXS, al_S6 hXS, al_S7 hXS, al_S8 hXS, al_S9 hXS, al_S10 hXS, al_S11 hXS, al_S12 hXS, rd_S1 hXS, rd_S2 hXS, rd_S3 hXS, rd_S4 hXS, rd_S5 hXS, rd_S6 hXS, rd_S7 hXS, rd_S8 hXS, rd_S9 hXS, rd_S10 hXS, rd_S11 hXS, rd_S12 hXS, gP_S hXS hlS, wr_S1 hXS hlS, wr_S2 hXS hlS, wr_S3 hXS hlS, wr_S4 hXS hlS, wr_S5 hXS hlS, wr_S6 hXS hlS, wr_S7 hXS hlS, wr_S8 hXS hlS, wr_S9 hXS hlS, wr_S10 hXS hlS, wr_S11 hXS hlS, wr_S12 hXS hlS, gO_L hXL, gR_L5 hXL, al_L1 hXL, rd_L1 hXL, gP_L hXL hlL, wr_L1 hXL hlL, gO_R hXR, gR_R3 hXR, gR_R4 hXR, al_R1 hXR, al_R2 hXR, rd_R1 hXR, rd_R2 hXR, gP_R hXR hlR, wr_R1 hXR hlR, wr_R2 hXR hlR, gO_C hXC, gR_C1 hXC, al_C1 hXC, rd_C1 hXC, gP_C hXC hlC, wr_C1 hXC hlC, Nat.add_assoc, Nat.reduceAdd, sB_0, sB_c, u3_sB0, u3_sB, u3_s, u3_n, Nat.reduceLT, hx, Jl0, Jl1, Jl2, Jl3, Jl4, Jl5, Jl6, Jl7, Jl8, Jl9, Jl10, Jl11, Jl12, Jl13, Jl14, Jl15, Jl16, Jl17, Jl18, Jl19, Jl20, Jl22, Jl24, Jl28, Jl30, Jl31, Jl32, Jl35, Jl36, Jl37, Jl38, Jl39, Jl40, Jl48, Jl57, Jl59, Jl60, Jl61, Jl63, Jl64, Jl68, Jl69, Jl96, Jl97, Jl98, Jl99, Jl100, Jl122, Jl149, Jl150, Jl165, Jl255, Jl511, Jl512, Jl600, Jl610, Jl940, Jl968, Jl999, Jl1134, Jl1152, Jl2048, Jl4608, Jl9999, Jl99999, Jl100000, Jl147456, Jl12345, Jl1103515245, Jl100000000, Jlm1, Jlm2, J_add, J_sub, J_mul, J_lt, J_le, J_eq, J_ite, J_cl, ri_j, wi_j, b2i_z, b2i_o, b2i_zo, Int.cast_ofNat_Int, Int.natCast_zero, Int.natCast_one, if_true, if_false, ite_self, Int.le_refl, J_bit, J_or, J_neg, J_oN, Int.reduceEq, Int.reduceLT, Int.reduceLE, Int.reduceNeg, Int.reduceAdd, Int.reduceSub, Int.reduceMul, Int.reduceToNat, J_shl, J_shr, V_ite, true_or, or_true, nz_j, J_div, J_rem, Option.bind_some, Option.toList_some, Option.toList_none, List.cons_append, List.nil_append, Jl21, Jl23, Jl25, Jl74, Jl83, Jl288, Jl324, Jl1800, Jlm8]
      by_cases q0 : (lnQ B n w ln full (Z 0 6, Z 0 7)).1 = 0
      · rw [if_pos q0]
        obtain ⟨b1, b2, b3⟩ := lnQ_ok q0
        obtain ⟨Z3, c1, c2, c3⟩ := tel_sp (E := E) (lo := lo) (d := d) (I := I) (Z := Z2) (by omega) hX hl hs lnb (by rw [d2]; exact hD) (by rw [d2, ← hfu]; exact b2) (fun i g1 g2 => by rw [cbQ_c (V' := vv B n (nx B n w)) g1 (fun j g3 g4 => a4 j g3 (by omega))]; exact b3 i g1 g2)
        obtain ⟨f1, f2, f3, f4⟩ := c3
        refine ⟨sA Z3 22 (nxX (Z3 22) B (Z3 22 1) (Z3 22 2)), ?_, ?_, ?_, ?_, ?_⟩
        · rw [s1, a1, ← fin Z3 f2]
          have z0 : Z2 0 6 = 0 := e6.trans q0
          simp (disch := omega) only [b65_135, b65_142, gO_k hXk, gP_k hXk hl, gR_k hX0, gR_k hX1, gR_k hX2, gR_k hX3, gR_k hX4, gR_k hX5, rdA_k hXn, wrA_k hXn hlNu, gO_k hXr.1, gO_S hXS, gR_S2 hXS, gR_S4 hXS, gR_S5 hXS, gR_S6 hXS, gR_S7 hXS, gR_S8 hXS, gR_S9 hXS, gR_S10 hXS, gR_S11 hXS, gR_S12 hXS, gR_S14 hXS, gR_S15 hXS, al_S1 hXS, al_S2 hXS, al_S3 hXS, al_S4 hXS, al_S5 hXS, al_S6 hXS, al_S7 hXS, al_S8 hXS, al_S9 hXS, al_S10 hXS, al_S11 hXS, al_S12 hXS, rd_S1 hXS, rd_S2 hXS, rd_S3 hXS, rd_S4 hXS, rd_S5 hXS, rd_S6 hXS, rd_S7 hXS, rd_S8 hXS, rd_S9 hXS, rd_S10 hXS, rd_S11 hXS, rd_S12 hXS, gP_S hXS hlS, wr_S1 hXS hlS, wr_S2 hXS hlS, wr_S3 hXS hlS, wr_S4 hXS hlS, wr_S5 hXS hlS, wr_S6 hXS hlS, wr_S7 hXS hlS, wr_S8 hXS hlS, wr_S9 hXS hlS, wr_S10 hXS hlS, wr_S11 hXS hlS, wr_S12 hXS hlS, gO_L hXL, gR_L5 hXL, al_L1 hXL, rd_L1 hXL, gP_L hXL hlL, wr_L1 hXL hlL, gO_R hXR, gR_R3 hXR, gR_R4 hXR, al_R1 hXR, al_R2 hXR, rd_R1 hXR, rd_R2 hXR, gP_R hXR hlR, wr_R1 hXR hlR, wr_R2 hXR hlR, gO_C hXC, gR_C1 hXC, al_C1 hXC, rd_C1 hXC, gP_C hXC hlC, wr_C1 hXC hlC, Nat.add_assoc, Nat.reduceAdd, sB_0, sB_c, u3_sB0, u3_sB, u3_s, u3_n, Nat.reduceLT, z0, c1, Jl0, Jl1, Jl2, Jl3, Jl4, Jl5, Jl6, Jl7, Jl8, Jl9, Jl10, Jl11, Jl12, Jl13, Jl14, Jl15, Jl16, Jl17, Jl18, Jl19, Jl20, Jl22, Jl24, Jl28, Jl30, Jl31, Jl32, Jl35, Jl36, Jl37, Jl38, Jl39, Jl40, Jl48, Jl57, Jl59, Jl60, Jl61, Jl63, Jl64, Jl68, Jl69, Jl96, Jl97, Jl98, Jl99, Jl100, Jl122, Jl149, Jl150, Jl165, Jl255, Jl511, Jl512, Jl600, Jl610, Jl940, Jl968, Jl999, Jl1134, Jl1152, Jl2048, Jl4608, Jl9999, Jl99999, Jl100000, Jl147456, Jl12345, Jl1103515245, Jl100000000, Jlm1, Jlm2, J_add, J_sub, J_mul, J_lt, J_le, J_eq, J_ite, J_cl, ri_j, wi_j, b2i_z, b2i_o, b2i_zo, Int.cast_ofNat_Int, Int.natCast_zero, Int.natCast_one, if_true, if_false, ite_self, Int.le_refl, J_bit, J_or, J_neg, J_oN, Int.reduceEq, Int.reduceLT, Int.reduceLE, Int.reduceNeg, Int.reduceAdd, Int.reduceSub, Int.reduceMul, Int.reduceToNat, J_shl, J_shr, V_ite, true_or, or_true, nz_j, J_div, J_rem, Option.bind_some, Option.toList_some, Option.toList_none, List.cons_append, List.nil_append, Jl21, Jl23, Jl25, Jl74, Jl83, Jl288, Jl324, Jl1800, Jlm8]
        · rw [sA_s, f2, enW_wn]
          exact RX_nx a2
        · rw [sA_n (by decide), f3, f4]
          exact a3'
        · rw [sA_n (by decide), f3]
          exact a5
        · rw [NuF_d (NuF_sA (Or.inr rfl)), c2, d2]
          exact tlD_c hs lnb a4
      · rw [if_neg q0]
        refine ⟨sA Z2 22 (nxX (Z2 22) B (Z2 22 1) (Z2 22 2)), ?_, ?_, ?_, ?_, ?_⟩
        · rw [s1, a1, ← fin Z2 rfl]
          have z0 : ¬ Z2 0 6 = 0 := fun z => q0 (e6.symm.trans z)
          simp (disch := omega) only [b65_135, gO_k hXk, gP_k hXk hl, gR_k hX0, gR_k hX1, gR_k hX2, gR_k hX3, gR_k hX4, gR_k hX5, rdA_k hXn, wrA_k hXn hlNu, gO_k hXr.1, gO_S hXS, gR_S2 hXS, gR_S4 hXS, gR_S5 hXS, gR_S6 hXS, gR_S7 hXS, gR_S8 hXS, gR_S9 hXS, gR_S10 hXS, gR_S11 hXS, gR_S12 hXS, gR_S14 hXS, gR_S15 hXS, al_S1 hXS, al_S2 hXS, al_S3 hXS, al_S4 hXS, al_S5 hXS, al_S6 hXS, al_S7 hXS, al_S8 hXS, al_S9 hXS, al_S10 hXS, al_S11 hXS, al_S12 hXS, rd_S1 hXS, rd_S2 hXS, rd_S3 hXS, rd_S4 hXS, rd_S5 hXS, rd_S6 hXS, rd_S7 hXS, rd_S8 hXS, rd_S9 hXS, rd_S10 hXS, rd_S11 hXS, rd_S12 hXS, gP_S hXS hlS, wr_S1 hXS hlS, wr_S2 hXS hlS, wr_S3 hXS hlS, wr_S4 hXS hlS, wr_S5 hXS hlS, wr_S6 hXS hlS, wr_S7 hXS hlS, wr_S8 hXS hlS, wr_S9 hXS hlS, wr_S10 hXS hlS, wr_S11 hXS hlS, wr_S12 hXS hlS, gO_L hXL, gR_L5 hXL, al_L1 hXL, rd_L1 hXL, gP_L hXL hlL, wr_L1 hXL hlL, gO_R hXR, gR_R3 hXR, gR_R4 hXR, al_R1 hXR, al_R2 hXR, rd_R1 hXR, rd_R2 hXR, gP_R hXR hlR, wr_R1 hXR hlR, wr_R2 hXR hlR, gO_C hXC, gR_C1 hXC, al_C1 hXC, rd_C1 hXC, gP_C hXC hlC, wr_C1 hXC hlC, Nat.add_assoc, Nat.reduceAdd, sB_0, sB_c, u3_sB0, u3_sB, u3_s, u3_n, Nat.reduceLT, Jl0, Jl1, Jl2, Jl3, Jl4, Jl5, Jl6, Jl7, Jl8, Jl9, Jl10, Jl11, Jl12, Jl13, Jl14, Jl15, Jl16, Jl17, Jl18, Jl19, Jl20, Jl22, Jl24, Jl28, Jl30, Jl31, Jl32, Jl35, Jl36, Jl37, Jl38, Jl39, Jl40, Jl48, Jl57, Jl59, Jl60, Jl61, Jl63, Jl64, Jl68, Jl69, Jl96, Jl97, Jl98, Jl99, Jl100, Jl122, Jl149, Jl150, Jl165, Jl255, Jl511, Jl512, Jl600, Jl610, Jl940, Jl968, Jl999, Jl1134, Jl1152, Jl2048, Jl4608, Jl9999, Jl99999, Jl100000, Jl147456, Jl12345, Jl1103515245, Jl100000000, Jlm1, Jlm2, J_add, J_sub, J_mul, J_lt, J_le, J_eq, J_ite, J_cl, ri_j, wi_j, b2i_z, b2i_o, b2i_zo, Int.cast_ofNat_Int, Int.natCast_zero, Int.natCast_one, if_true, if_false, ite_self, Int.le_refl, J_bit, J_or, J_neg, J_oN, Int.reduceEq, Int.reduceLT, Int.reduceLE, Int.reduceNeg, Int.reduceAdd, Int.reduceSub, Int.reduceMul, Int.reduceToNat, J_shl, J_shr, V_ite, true_or, or_true, nz_j, J_div, J_rem, Option.bind_some, Option.toList_some, Option.toList_none, List.cons_append, List.nil_append, Jl21, Jl23, Jl25, Jl74, Jl83, Jl288, Jl324, Jl1800, Jlm8]
          repeat (first | rw [if_neg (by omega)] | rw [if_pos (by omega)])
        · rw [sA_s, enW_wn]
          exact RX_nx a2
        · rw [sA_n (by decide)]
          exact a3'
        · rw [sA_n (by decide)]
          exact a5
        · rw [NuF_d (NuF_sA (Or.inr rfl)), d2]
end CLEAR
