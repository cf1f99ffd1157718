/-! THE LAW: a question to both (by program) -/
section LAW
variable {E : (Nat → Value) × (Nat → Nat)} {lo b L d : Nat} {μ : rM} {I : Nat → Int → Int} {i : Int}
theorem op_street (hd : 20 ≤ d) (h : INV E lo b L μ I) (hi : 0 ≤ i ∧ i + 7 ≤ (L : Int)) : STP E lo b L d i (ex PG E lo d 312 326 [some (.ref b), some (.ref lo), some (.ref ((lo + 146))), some (.int (J (i)))] [] (mj μ I)) := by
  have hl2 := h.2.2.1.2.2.1
  have hkb := h.2.2.1.2.1
  have a1 := h.b32 (j := i + 1) (by omega)
  have a2 := h.b32 (j := i + 2) (by omega)
  have c0 := (h.cnt (s := 0) (by omega)).1
  have c1 := (h.cnt (s := 1) (by omega)).1
  have c2 := (h.cnt (s := 2) (by omega)).1
  have c3 := (h.cnt (s := 3) (by omega)).1
  have hc := c_street (E := E) (lo := lo) (d := d) (x := I b (i + 1)) (w := I b (i + 2)) (by omega) h.1 h.TOK ⟨a1, a2⟩
  simp only [c0, c1, c2, c3, o3b, w4b] at hc
  obtain ⟨μ1, I1, I2, e1, e2, h2, k1, k2, hC1⟩ := bothQ (r2 := fun μ' I' => cl E lo d 215 [.ref (lo + 146), .int (J (I b (i + 1))), .int (J (I b (i + 2)))] (mj μ' I')) h ⟨μ, I, hc, FQ.r⟩ (fun μ' I' f e hM => by
    have q := q_street (E := E) (lo := lo) (d := d) (I := I') (M := rws I' (lo + 146)) (x := I b (i + 1)) (w := I b (i + 2)) (by omega) hM (by omega) (h.tS e) ⟨a1, a2⟩
    rw [show sB I' (lo + 146) 26 (rws I' (lo + 146)) = I' from sB_id] at q
    have n0 : rws I' (lo + 146) 1 = I (lo + 147) := e
    simp only [n0, o3, w4] at q
    exact q)
  refine ⟨μ1, I2, ?_, h2⟩
  have hk1 := k1.trans hkb
  have kO := h.1.o.1
  have kM := hC1.M146.1
  simp (disch := omega) only [b312_326, b312_340, b312_354, b312_357, rdA_k hkb, rdA_k hk1, gO_k kO, gO_k kM, e1, k2, e2, eq_self, lgs, Jl0, Jl1, Jl2, Jl3, Jl4, Jl5, Jl6, Jl7, Jl8, Jl9, Jl10, Jl11, Jl12, Jl13, Jl14, Jl15, Jl16, Jl17, Jl18, Jl19, Jl20, Jl22, Jl24, Jl28, Jl30, Jl31, Jl32, Jl35, Jl36, Jl37, Jl38, Jl39, Jl40, Jl48, Jl57, Jl59, Jl60, Jl61, Jl63, Jl64, Jl68, Jl69, Jl96, Jl97, Jl98, Jl99, Jl100, Jl122, Jl149, Jl150, Jl165, Jl255, Jl511, Jl512, Jl600, Jl610, Jl940, Jl968, Jl999, Jl1134, Jl1152, Jl2048, Jl4608, Jl9999, Jl99999, Jl100000, Jl147456, Jl12345, Jl1103515245, Jl100000000, Jlm1, Jlm2, J_add, J_sub, J_mul, J_lt, J_le, J_eq, J_ite, J_cl, ri_j, wi_j, b2i_z, b2i_o, b2i_zo, Int.cast_ofNat_Int, Int.natCast_zero, Int.natCast_one, if_true, if_false, ite_self, Int.le_refl, J_bit, J_or, J_neg, J_oN, Int.reduceEq, Int.reduceLT, Int.reduceLE, Int.reduceNeg, Int.reduceAdd, Int.reduceSub, Int.reduceMul, Int.reduceToNat, J_shl, J_shr, V_ite, true_or, or_true, nz_j, J_div, J_rem, Option.bind_some, Option.toList_some, Option.toList_none, List.cons_append, List.nil_append, Jl21, Jl23, Jl25, Jl74, Jl83, Jl288, Jl324, Jl1800, Jlm8]
theorem op_sleeper (hd : 20 ≤ d) (h : INV E lo b L μ I) (hi : 0 ≤ i ∧ i + 7 ≤ (L : Int)) : STP E lo b L d i (ex PG E lo d 312 359 [some (.ref b), some (.ref lo), some (.ref ((lo + 146))), some (.int (J (i)))] [] (mj μ I)) := by
  have hl2 := h.2.2.1.2.2.1
  have hkb := h.2.2.1.2.1
  have a1 := h.b32 (j := i + 1) (by omega)
  have a2 := h.b32 (j := i + 2) (by omega)
  have a3 := h.b32 (j := i + 3) (by omega)
  have c0 := (h.cnt (s := 0) (by omega)).1
  have c1 := (h.cnt (s := 1) (by omega)).1
  have c2 := (h.cnt (s := 2) (by omega)).1
  have c3 := (h.cnt (s := 3) (by omega)).1
  have hc := c_sleeper (E := E) (lo := lo) (d := d) (x := I b (i + 1)) (k := I b (i + 2)) (w := I b (i + 3)) (by omega) h.1 h.TOK ⟨a1, a2, a3⟩
  simp only [c0, c1, c2, c3, o3b, w4b] at hc
  obtain ⟨μ1, I1, I2, e1, e2, h2, k1, k2, hC1⟩ := bothQ (r2 := fun μ' I' => cl E lo d 216 [.ref (lo + 146), .int (J (I b (i + 1))), .int (J (I b (i + 2))), .int (J (I b (i + 3)))] (mj μ' I')) h ⟨μ, I, hc, FQ.r⟩ (fun μ' I' f e hM => by
    have q := q_sleeper (E := E) (lo := lo) (d := d) (I := I') (M := rws I' (lo + 146)) (x := I b (i + 1)) (k := I b (i + 2)) (w := I b (i + 3)) (by omega) hM (by omega) (h.tS e) ⟨a1, a2, a3⟩
    rw [show sB I' (lo + 146) 26 (rws I' (lo + 146)) = I' from sB_id] at q
    have n0 : rws I' (lo + 146) 1 = I (lo + 147) := e
    simp only [n0, o3, w4] at q
    exact q)
  refine ⟨μ1, I2, ?_, h2⟩
  have hk1 := k1.trans hkb
  have kO := h.1.o.1
  have kM := hC1.M146.1
  simp (disch := omega) only [b312_359, b312_378, b312_397, b312_400, rdA_k hkb, rdA_k hk1, gO_k kO, gO_k kM, e1, k2, e2, eq_self, lgs, Jl0, Jl1, Jl2, Jl3, Jl4, Jl5, Jl6, Jl7, Jl8, Jl9, Jl10, Jl11, Jl12, Jl13, Jl14, Jl15, Jl16, Jl17, Jl18, Jl19, Jl20, Jl22, Jl24, Jl28, Jl30, Jl31, Jl32, Jl35, Jl36, Jl37, Jl38, Jl39, Jl40, Jl48, Jl57, Jl59, Jl60, Jl61, Jl63, Jl64, Jl68, Jl69, Jl96, Jl97, Jl98, Jl99, Jl100, Jl122, Jl149, Jl150, Jl165, Jl255, Jl511, Jl512, Jl600, Jl610, Jl940, Jl968, Jl999, Jl1134, Jl1152, Jl2048, Jl4608, Jl9999, Jl99999, Jl100000, Jl147456, Jl12345, Jl1103515245, Jl100000000, Jlm1, Jlm2, J_add, J_sub, J_mul, J_lt, J_le, J_eq, J_ite, J_cl, ri_j, wi_j, b2i_z, b2i_o, b2i_zo, Int.cast_ofNat_Int, Int.natCast_zero, Int.natCast_one, if_true, if_false, ite_self, Int.le_refl, J_bit, J_or, J_neg, J_oN, Int.reduceEq, Int.reduceLT, Int.reduceLE, Int.reduceNeg, Int.reduceAdd, Int.reduceSub, Int.reduceMul, Int.reduceToNat, J_shl, J_shr, V_ite, true_or, or_true, nz_j, J_div, J_rem, Option.bind_some, Option.toList_some, Option.toList_none, List.cons_append, List.nil_append, Jl21, Jl23, Jl25, Jl74, Jl83, Jl288, Jl324, Jl1800, Jlm8]
theorem op_wine (hd : 20 ≤ d) (h : INV E lo b L μ I) (hi : 0 ≤ i ∧ i + 7 ≤ (L : Int)) : STP E lo b L d i (ex PG E lo d 312 402 [some (.ref b), some (.ref lo), some (.ref ((lo + 146))), some (.int (J (i)))] [] (mj μ I)) := by
  have hl2 := h.2.2.1.2.2.1
  have hkb := h.2.2.1.2.1
  have a1 := h.b32 (j := i + 1) (by omega)
  have a2 := h.b32 (j := i + 2) (by omega)
  have a3 := h.b32 (j := i + 3) (by omega)
  have c0 := (h.cnt (s := 0) (by omega)).1
  have c1 := (h.cnt (s := 1) (by omega)).1
  have c2 := (h.cnt (s := 2) (by omega)).1
  have c3 := (h.cnt (s := 3) (by omega)).1
  have hc := c_wine (E := E) (lo := lo) (d := d) (x := I b (i + 1)) (k := I b (i + 2)) (w := I b (i + 3)) (by omega) h.1 h.TOK ⟨a1, a2, a3⟩
  simp only [c0, c1, c2, c3, o3b, w4b] at hc
  obtain ⟨μ1, I1, I2, e1, e2, h2, k1, k2, hC1⟩ := bothQ (r2 := fun μ' I' => cl E lo d 217 [.ref (lo + 146), .int (J (I b (i + 1))), .int (J (I b (i + 2))), .int (J (I b (i + 3)))] (mj μ' I')) h ⟨μ, I, hc, FQ.r⟩ (fun μ' I' f e hM => by
    have q := q_wine (E := E) (lo := lo) (d := d) (I := I') (M := rws I' (lo + 146)) (x := I b (i + 1)) (k := I b (i + 2)) (w := I b (i + 3)) (by omega) hM (by omega) (h.tS e) ⟨a1, a2, a3⟩
    rw [show sB I' (lo + 146) 26 (rws I' (lo + 146)) = I' from sB_id] at q
    have n0 : rws I' (lo + 146) 1 = I (lo + 147) := e
    simp only [n0, o3, w4] at q
    exact q)
  refine ⟨μ1, I2, ?_, h2⟩
  have hk1 := k1.trans hkb
  have kO := h.1.o.1
  have kM := hC1.M146.1
  simp (disch := omega) only [b312_402, b312_421, b312_440, b312_443, rdA_k hkb, rdA_k hk1, gO_k kO, gO_k kM, e1, k2, e2, eq_self, lgs, Jl0, Jl1, Jl2, Jl3, Jl4, Jl5, Jl6, Jl7, Jl8, Jl9, Jl10, Jl11, Jl12, Jl13, Jl14, Jl15, Jl16, Jl17, Jl18, Jl19, Jl20, Jl22, Jl24, Jl28, Jl30, Jl31, Jl32, Jl35, Jl36, Jl37, Jl38, Jl39, Jl40, Jl48, Jl57, Jl59, Jl60, Jl61, Jl63, Jl64, Jl68, Jl69, Jl96, Jl97, Jl98, Jl99, Jl100, Jl122, Jl149, Jl150, Jl165, Jl255, Jl511, Jl512, Jl600, Jl610, Jl940, Jl968, Jl999, Jl1134, Jl1152, Jl2048, Jl4608, Jl9999, Jl99999, Jl100000, Jl147456, Jl12345, Jl1103515245, Jl100000000, Jlm1, Jlm2, J_add, J_sub, J_mul, J_lt, J_le, J_eq, J_ite, J_cl, ri_j, wi_j, b2i_z, b2i_o, b2i_zo, Int.cast_ofNat_Int, Int.natCast_zero, Int.natCast_one, if_true, if_false, ite_self, Int.le_refl, J_bit, J_or, J_neg, J_oN, Int.reduceEq, Int.reduceLT, Int.reduceLE, Int.reduceNeg, Int.reduceAdd, Int.reduceSub, Int.reduceMul, Int.reduceToNat, J_shl, J_shr, V_ite, true_or, or_true, nz_j, J_div, J_rem, Option.bind_some, Option.toList_some, Option.toList_none, List.cons_append, List.nil_append, Jl21, Jl23, Jl25, Jl74, Jl83, Jl288, Jl324, Jl1800, Jlm8]
theorem op_depth (hd : 20 ≤ d) (h : INV E lo b L μ I) (hi : 0 ≤ i ∧ i + 7 ≤ (L : Int)) : STP E lo b L d i (ex PG E lo d 312 445 [some (.ref b), some (.ref lo), some (.ref ((lo + 146))), some (.int (J (i)))] [] (mj μ I)) := by
  have hl2 := h.2.2.1.2.2.1
  have hkb := h.2.2.1.2.1
  have a1 := h.b32 (j := i + 1) (by omega)
  have a2 := h.b32 (j := i + 2) (by omega)
  have a3 := h.b32 (j := i + 3) (by omega)
  have c0 := (h.cnt (s := 0) (by omega)).1
  have c1 := (h.cnt (s := 1) (by omega)).1
  have c2 := (h.cnt (s := 2) (by omega)).1
  have c3 := (h.cnt (s := 3) (by omega)).1
  have hc := c_depth (E := E) (lo := lo) (d := d) (x := I b (i + 1)) (k := I b (i + 2)) (u := I b (i + 3)) (by omega) h.1 h.TOK ⟨a1, a2, a3⟩
  simp only [c0, c1, c2, c3, o3b, w4b] at hc
  obtain ⟨μ1, I1, I2, e1, e2, h2, k1, k2, hC1⟩ := bothQ (r2 := fun μ' I' => cl E lo d 218 [.ref (lo + 146), .int (J (I b (i + 1))), .int (J (I b (i + 2))), .int (J (I b (i + 3)))] (mj μ' I')) h ⟨μ, I, hc, FQ.r⟩ (fun μ' I' f e hM => by
    have q := q_depth (E := E) (lo := lo) (d := d) (I := I') (M := rws I' (lo + 146)) (x := I b (i + 1)) (k := I b (i + 2)) (u := I b (i + 3)) (by omega) hM (by omega) (h.tS e) ⟨a1, a2, a3⟩
    rw [show sB I' (lo + 146) 26 (rws I' (lo + 146)) = I' from sB_id] at q
    have n0 : rws I' (lo + 146) 1 = I (lo + 147) := e
    simp only [n0, o3, w4] at q
    exact q)
  refine ⟨μ1, I2, ?_, h2⟩
  have hk1 := k1.trans hkb
  have kO := h.1.o.1
  have kM := hC1.M146.1
  simp (disch := omega) only [b312_445, b312_464, b312_483, b312_486, rdA_k hkb, rdA_k hk1, gO_k kO, gO_k kM, e1, k2, e2, eq_self, lgs, Jl0, Jl1, Jl2, Jl3, Jl4, Jl5, Jl6, Jl7, Jl8, Jl9, Jl10, Jl11, Jl12, Jl13, Jl14, Jl15, Jl16, Jl17, Jl18, Jl19, Jl20, Jl22, Jl24, Jl28, Jl30, Jl31, Jl32, Jl35, Jl36, Jl37, Jl38, Jl39, Jl40, Jl48, Jl57, Jl59, Jl60, Jl61, Jl63, Jl64, Jl68, Jl69, Jl96, Jl97, Jl98, Jl99, Jl100, Jl122, Jl149, Jl150, Jl165, Jl255, Jl511, Jl512, Jl600, Jl610, Jl940, Jl968, Jl999, Jl1134, Jl1152, Jl2048, Jl4608, Jl9999, Jl99999, Jl100000, Jl147456, Jl12345, Jl1103515245, Jl100000000, Jlm1, Jlm2, J_add, J_sub, J_mul, J_lt, J_le, J_eq, J_ite, J_cl, ri_j, wi_j, b2i_z, b2i_o, b2i_zo, Int.cast_ofNat_Int, Int.natCast_zero, Int.natCast_one, if_true, if_false, ite_self, Int.le_refl, J_bit, J_or, J_neg, J_oN, Int.reduceEq, Int.reduceLT, Int.reduceLE, Int.reduceNeg, Int.reduceAdd, Int.reduceSub, Int.reduceMul, Int.reduceToNat, J_shl, J_shr, V_ite, true_or, or_true, nz_j, J_div, J_rem, Option.bind_some, Option.toList_some, Option.toList_none, List.cons_append, List.nil_append, Jl21, Jl23, Jl25, Jl74, Jl83, Jl288, Jl324, Jl1800, Jlm8]
theorem op_law (hd : 20 ≤ d) (h : INV E lo b L μ I) (hi : 0 ≤ i ∧ i + 7 ≤ (L : Int)) : STP E lo b L d i (ex PG E lo d 312 488 [some (.ref b), some (.ref lo), some (.ref ((lo + 146))), some (.int (J (i)))] [] (mj μ I)) := by
  have hl2 := h.2.2.1.2.2.1
  have hkb := h.2.2.1.2.1
  have a1 := h.b32 (j := i + 1) (by omega)
  have a2 := h.b32 (j := i + 2) (by omega)
  have c0 := (h.cnt (s := 0) (by omega)).1
  have c1 := (h.cnt (s := 1) (by omega)).1
  have c2 := (h.cnt (s := 2) (by omega)).1
  have c3 := (h.cnt (s := 3) (by omega)).1
  have hc := c_law (E := E) (lo := lo) (d := d) (x := I b (i + 1)) (w := I b (i + 2)) (by omega) h.1 h.TOK ⟨a1, a2⟩
  simp only [c0, c1, c2, c3, o3b, w4b] at hc
  obtain ⟨μ1, I1, I2, e1, e2, h2, k1, k2, hC1⟩ := bothQ (r2 := fun μ' I' => cl E lo d 220 [.ref (lo + 146), .int (J (I b (i + 1))), .int (J (I b (i + 2)))] (mj μ' I')) h ⟨μ, I, hc, FQ.r⟩ (fun μ' I' f e hM => by
    have q := q_law (E := E) (lo := lo) (d := d) (I := I') (M := rws I' (lo + 146)) (x := I b (i + 1)) (w := I b (i + 2)) (by omega) hM (by omega) (h.tL e) ⟨a1, a2⟩
    rw [show sB I' (lo + 146) 26 (rws I' (lo + 146)) = I' from sB_id] at q
    have n0 : rws I' (lo + 146) 1 = I (lo + 147) := e
    simp only [n0, o3, w4] at q
    exact q)
  refine ⟨μ1, I2, ?_, h2⟩
  have hk1 := k1.trans hkb
  have kO := h.1.o.1
  have kM := hC1.M146.1
  simp (disch := omega) only [b312_488, b312_502, b312_516, b312_519, rdA_k hkb, rdA_k hk1, gO_k kO, gO_k kM, e1, k2, e2, eq_self, lgs, Jl0, Jl1, Jl2, Jl3, Jl4, Jl5, Jl6, Jl7, Jl8, Jl9, Jl10, Jl11, Jl12, Jl13, Jl14, Jl15, Jl16, Jl17, Jl18, Jl19, Jl20, Jl22, Jl24, Jl28, Jl30, Jl31, Jl32, Jl35, Jl36, Jl37, Jl38, Jl39, Jl40, Jl48, Jl57, Jl59, Jl60, Jl61, Jl63, Jl64, Jl68, Jl69, Jl96, Jl97, Jl98, Jl99, Jl100, Jl122, Jl149, Jl150, Jl165, Jl255, Jl511, Jl512, Jl600, Jl610, Jl940, Jl968, Jl999, Jl1134, Jl1152, Jl2048, Jl4608, Jl9999, Jl99999, Jl100000, Jl147456, Jl12345, Jl1103515245, Jl100000000, Jlm1, Jlm2, J_add, J_sub, J_mul, J_lt, J_le, J_eq, J_ite, J_cl, ri_j, wi_j, b2i_z, b2i_o, b2i_zo, Int.cast_ofNat_Int, Int.natCast_zero, Int.natCast_one, if_true, if_false, ite_self, Int.le_refl, J_bit, J_or, J_neg, J_oN, Int.reduceEq, Int.reduceLT, Int.reduceLE, Int.reduceNeg, Int.reduceAdd, Int.reduceSub, Int.reduceMul, Int.reduceToNat, J_shl, J_shr, V_ite, true_or, or_true, nz_j, J_div, J_rem, Option.bind_some, Option.toList_some, Option.toList_none, List.cons_append, List.nil_append, Jl21, Jl23, Jl25, Jl74, Jl83, Jl288, Jl324, Jl1800, Jlm8]
theorem op_act (hd : 20 ≤ d) (h : INV E lo b L μ I) (hi : 0 ≤ i ∧ i + 7 ≤ (L : Int)) : STP E lo b L d i (ex PG E lo d 312 521 [some (.ref b), some (.ref lo), some (.ref ((lo + 146))), some (.int (J (i)))] [] (mj μ I)) := by
  have hl2 := h.2.2.1.2.2.1
  have hkb := h.2.2.1.2.1
  have a1 := h.b32 (j := i + 1) (by omega)
  have a2 := h.b32 (j := i + 2) (by omega)
  have a3 := h.b32 (j := i + 3) (by omega)
  have c0 := (h.cnt (s := 0) (by omega)).1
  have c1 := (h.cnt (s := 1) (by omega)).1
  have c2 := (h.cnt (s := 2) (by omega)).1
  have c3 := (h.cnt (s := 3) (by omega)).1
  have hc := c_act (E := E) (lo := lo) (d := d) (x := I b (i + 1)) (k := I b (i + 2)) (w := I b (i + 3)) (by omega) h.1 h.TOK ⟨a1, a2, a3⟩
  simp only [c0, c1, c2, c3, o3b, w4b] at hc
  obtain ⟨μ1, I1, I2, e1, e2, h2, k1, k2, hC1⟩ := bothQ (r2 := fun μ' I' => cl E lo d 224 [.ref (lo + 146), .int (J (I b (i + 1))), .int (J (I b (i + 2))), .int (J (I b (i + 3)))] (mj μ' I')) h ⟨μ, I, hc, FQ.r⟩ (fun μ' I' f e hM => by
    have q := q_act (E := E) (lo := lo) (d := d) (I := I') (M := rws I' (lo + 146)) (x := I b (i + 1)) (k := I b (i + 2)) (w := I b (i + 3)) (by omega) hM (by omega) (h.tR e) ⟨a1, a2, a3⟩
    rw [show sB I' (lo + 146) 26 (rws I' (lo + 146)) = I' from sB_id] at q
    have n0 : rws I' (lo + 146) 1 = I (lo + 147) := e
    simp only [n0, o3, w4] at q
    exact q)
  refine ⟨μ1, I2, ?_, h2⟩
  have hk1 := k1.trans hkb
  have kO := h.1.o.1
  have kM := hC1.M146.1
  simp (disch := omega) only [b312_521, b312_540, b312_559, b312_562, rdA_k hkb, rdA_k hk1, gO_k kO, gO_k kM, e1, k2, e2, eq_self, lgs, Jl0, Jl1, Jl2, Jl3, Jl4, Jl5, Jl6, Jl7, Jl8, Jl9, Jl10, Jl11, Jl12, Jl13, Jl14, Jl15, Jl16, Jl17, Jl18, Jl19, Jl20, Jl22, Jl24, Jl28, Jl30, Jl31, Jl32, Jl35, Jl36, Jl37, Jl38, Jl39, Jl40, Jl48, Jl57, Jl59, Jl60, Jl61, Jl63, Jl64, Jl68, Jl69, Jl96, Jl97, Jl98, Jl99, Jl100, Jl122, Jl149, Jl150, Jl165, Jl255, Jl511, Jl512, Jl600, Jl610, Jl940, Jl968, Jl999, Jl1134, Jl1152, Jl2048, Jl4608, Jl9999, Jl99999, Jl100000, Jl147456, Jl12345, Jl1103515245, Jl100000000, Jlm1, Jlm2, J_add, J_sub, J_mul, J_lt, J_le, J_eq, J_ite, J_cl, ri_j, wi_j, b2i_z, b2i_o, b2i_zo, Int.cast_ofNat_Int, Int.natCast_zero, Int.natCast_one, if_true, if_false, ite_self, Int.le_refl, J_bit, J_or, J_neg, J_oN, Int.reduceEq, Int.reduceLT, Int.reduceLE, Int.reduceNeg, Int.reduceAdd, Int.reduceSub, Int.reduceMul, Int.reduceToNat, J_shl, J_shr, V_ite, true_or, or_true, nz_j, J_div, J_rem, Option.bind_some, Option.toList_some, Option.toList_none, List.cons_append, List.nil_append, Jl21, Jl23, Jl25, Jl74, Jl83, Jl288, Jl324, Jl1800, Jlm8]
theorem op_stop (hd : 20 ≤ d) (h : INV E lo b L μ I) (hi : 0 ≤ i ∧ i + 7 ≤ (L : Int)) : STP E lo b L d i (ex PG E lo d 312 564 [some (.ref b), some (.ref lo), some (.ref ((lo + 146))), some (.int (J (i)))] [] (mj μ I)) := by
  have hl2 := h.2.2.1.2.2.1
  have hkb := h.2.2.1.2.1
  have a1 := h.b32 (j := i + 1) (by omega)
  have a2 := h.b32 (j := i + 2) (by omega)
  have c0 := (h.cnt (s := 0) (by omega)).1
  have c1 := (h.cnt (s := 1) (by omega)).1
  have c2 := (h.cnt (s := 2) (by omega)).1
  have c3 := (h.cnt (s := 3) (by omega)).1
  have hc := c_stop (E := E) (lo := lo) (d := d) (x := I b (i + 1)) (z := I b (i + 2)) (by omega) h.CK ⟨a1, a2⟩ rfl rfl
  simp only [c0, c1, c2, c3, o3b, w4b] at hc
  obtain ⟨μ1, I1, I2, e1, e2, h2, k1, k2, hC1⟩ := bothQ (r2 := fun μ' I' => cl E lo d 237 [.ref (lo + 146), .int (J (I b (i + 1))), .int (J (I b (i + 2)))] (mj μ' I')) h hc (fun μ' I' f e hM => by
    have q := q_stop (E := E) (lo := lo) (d := d) (I := I') (M := rws I' (lo + 146)) (x := I b (i + 1)) (y := I b (i + 2)) (by omega) hM (by omega) (h.tS e) (h.tR e) ⟨a1, a2⟩
    rw [show sB I' (lo + 146) 26 (rws I' (lo + 146)) = I' from sB_id] at q
    have n0 : rws I' (lo + 146) 1 = I (lo + 147) := e
    simp only [n0, o3, w4] at q
    exact q)
  refine ⟨μ1, I2, ?_, h2⟩
  have hk1 := k1.trans hkb
  have kO := h.1.o.1
  have kM := hC1.M146.1
  simp (disch := omega) only [b312_564, b312_578, b312_592, b312_595, rdA_k hkb, rdA_k hk1, gO_k kO, gO_k kM, e1, k2, e2, eq_self, lgs, Jl0, Jl1, Jl2, Jl3, Jl4, Jl5, Jl6, Jl7, Jl8, Jl9, Jl10, Jl11, Jl12, Jl13, Jl14, Jl15, Jl16, Jl17, Jl18, Jl19, Jl20, Jl22, Jl24, Jl28, Jl30, Jl31, Jl32, Jl35, Jl36, Jl37, Jl38, Jl39, Jl40, Jl48, Jl57, Jl59, Jl60, Jl61, Jl63, Jl64, Jl68, Jl69, Jl96, Jl97, Jl98, Jl99, Jl100, Jl122, Jl149, Jl150, Jl165, Jl255, Jl511, Jl512, Jl600, Jl610, Jl940, Jl968, Jl999, Jl1134, Jl1152, Jl2048, Jl4608, Jl9999, Jl99999, Jl100000, Jl147456, Jl12345, Jl1103515245, Jl100000000, Jlm1, Jlm2, J_add, J_sub, J_mul, J_lt, J_le, J_eq, J_ite, J_cl, ri_j, wi_j, b2i_z, b2i_o, b2i_zo, Int.cast_ofNat_Int, Int.natCast_zero, Int.natCast_one, if_true, if_false, ite_self, Int.le_refl, J_bit, J_or, J_neg, J_oN, Int.reduceEq, Int.reduceLT, Int.reduceLE, Int.reduceNeg, Int.reduceAdd, Int.reduceSub, Int.reduceMul, Int.reduceToNat, J_shl, J_shr, V_ite, true_or, or_true, nz_j, J_div, J_rem, Option.bind_some, Option.toList_some, Option.toList_none, List.cons_append, List.nil_append, Jl21, Jl23, Jl25, Jl74, Jl83, Jl288, Jl324, Jl1800, Jlm8]
theorem op_state (hd : 20 ≤ d) (h : INV E lo b L μ I) (hi : 0 ≤ i ∧ i + 7 ≤ (L : Int)) : STP E lo b L d i (ex PG E lo d 312 597 [some (.ref b), some (.ref lo), some (.ref ((lo + 146))), some (.int (J (i)))] [] (mj μ I)) := by
  have hl2 := h.2.2.1.2.2.1
  have hkb := h.2.2.1.2.1
  have a1 := h.b32 (j := i + 1) (by omega)
  have a2 := h.b32 (j := i + 2) (by omega)
  have a3 := h.b32 (j := i + 3) (by omega)
  have a4 := h.b32 (j := i + 4) (by omega)
  have a5 := h.b32 (j := i + 5) (by omega)
  have c0 := (h.cnt (s := 0) (by omega)).1
  have c1 := (h.cnt (s := 1) (by omega)).1
  have c2 := (h.cnt (s := 2) (by omega)).1
  have c3 := (h.cnt (s := 3) (by omega)).1
  have hc := c_state (E := E) (lo := lo) (d := d) (x := I b (i + 1)) (y := I b (i + 2)) (z := I b (i + 3)) (n := I b (i + 4)) (w := I b (i + 5)) (by omega) h.CK ⟨a1, a2, a3, a4, a5⟩ rfl rfl rfl rfl
  simp only [c0, c1, c2, c3, o3b, w4b] at hc
  obtain ⟨μ1, I1, I2, e1, e2, h2, k1, k2, hC1⟩ := bothQ (r2 := fun μ' I' => cl E lo d 238 [.ref (lo + 146), .int (J (I b (i + 1))), .int (J (I b (i + 2))), .int (J (I b (i + 3))), .int (J (I b (i + 4))), .int (J (I b (i + 5)))] (mj μ' I')) h hc (fun μ' I' f e hM => by
    have q := q_state (E := E) (lo := lo) (d := d) (I := I') (M := rws I' (lo + 146)) (x := I b (i + 1)) (y := I b (i + 2)) (z := I b (i + 3)) (n := I b (i + 4)) (w := I b (i + 5)) (T := wlS (rws I (lo + 8 + 20 * (I b (i + 1)).toNat)) (rws I (lo + 23 + 20 * (I b (i + 3)).toNat)) (rws I (lo + 74)) 40) (by omega) hM (by omega) (h.tS e) (h.tL e) (h.tR e) ⟨a1, a2, a3, a4, a5⟩
    rw [show sB I' (lo + 146) 26 (rws I' (lo + 146)) = I' from sB_id] at q
    have n0 : rws I' (lo + 146) 1 = I (lo + 147) := e
    simp only [n0, o3, w4] at q
    exact q)
  refine ⟨μ1, I2, ?_, h2⟩
  have hk1 := k1.trans hkb
  have kO := h.1.o.1
  have kM := hC1.M146.1
  simp (disch := omega) only [b312_597, b312_626, b312_655, b312_658, rdA_k hkb, rdA_k hk1, gO_k kO, gO_k kM, e1, k2, e2, eq_self, lgs, Jl0, Jl1, Jl2, Jl3, Jl4, Jl5, Jl6, Jl7, Jl8, Jl9, Jl10, Jl11, Jl12, Jl13, Jl14, Jl15, Jl16, Jl17, Jl18, Jl19, Jl20, Jl22, Jl24, Jl28, Jl30, Jl31, Jl32, Jl35, Jl36, Jl37, Jl38, Jl39, Jl40, Jl48, Jl57, Jl59, Jl60, Jl61, Jl63, Jl64, Jl68, Jl69, Jl96, Jl97, Jl98, Jl99, Jl100, Jl122, Jl149, Jl150, Jl165, Jl255, Jl511, Jl512, Jl600, Jl610, Jl940, Jl968, Jl999, Jl1134, Jl1152, Jl2048, Jl4608, Jl9999, Jl99999, Jl100000, Jl147456, Jl12345, Jl1103515245, Jl100000000, Jlm1, Jlm2, J_add, J_sub, J_mul, J_lt, J_le, J_eq, J_ite, J_cl, ri_j, wi_j, b2i_z, b2i_o, b2i_zo, Int.cast_ofNat_Int, Int.natCast_zero, Int.natCast_one, if_true, if_false, ite_self, Int.le_refl, J_bit, J_or, J_neg, J_oN, Int.reduceEq, Int.reduceLT, Int.reduceLE, Int.reduceNeg, Int.reduceAdd, Int.reduceSub, Int.reduceMul, Int.reduceToNat, J_shl, J_shr, V_ite, true_or, or_true, nz_j, J_div, J_rem, Option.bind_some, Option.toList_some, Option.toList_none, List.cons_append, List.nil_append, Jl21, Jl23, Jl25, Jl74, Jl83, Jl288, Jl324, Jl1800, Jlm8]
theorem op_hours (hd : 20 ≤ d) (h : INV E lo b L μ I) (hi : 0 ≤ i ∧ i + 7 ≤ (L : Int)) : STP E lo b L d i (ex PG E lo d 312 660 [some (.ref b), some (.ref lo), some (.ref ((lo + 146))), some (.int (J (i)))] [] (mj μ I)) := by
  have hl2 := h.2.2.1.2.2.1
  have hkb := h.2.2.1.2.1
  have a1 := h.b32 (j := i + 1) (by omega)
  have a2 := h.b32 (j := i + 2) (by omega)
  have a3 := h.b32 (j := i + 3) (by omega)
  have c0 := (h.cnt (s := 0) (by omega)).1
  have c1 := (h.cnt (s := 1) (by omega)).1
  have c2 := (h.cnt (s := 2) (by omega)).1
  have c3 := (h.cnt (s := 3) (by omega)).1
  have hc := c_hours (E := E) (lo := lo) (d := d) (x := I b (i + 1)) (z := I b (i + 2)) (w := I b (i + 3)) (by omega) h.CK ⟨a1, a2, a3⟩ rfl rfl rfl
  simp only [c0, c1, c2, c3, o3b, w4b] at hc
  obtain ⟨μ1, I1, I2, e1, e2, h2, k1, k2, hC1⟩ := bothQ (r2 := fun μ' I' => cl E lo d 239 [.ref (lo + 146), .int (J (I b (i + 1))), .int (J (I b (i + 2))), .int (J (I b (i + 3)))] (mj μ' I')) h hc (fun μ' I' f e hM => by
    have q := q_hours (E := E) (lo := lo) (d := d) (I := I') (M := rws I' (lo + 146)) (x := I b (i + 1)) (y := I b (i + 2)) (w := I b (i + 3)) (T := rws I (lo + 74)) (by omega) hM (by omega) (h.tS e) (h.tR e) ⟨a1, a2, a3⟩
    rw [show sB I' (lo + 146) 26 (rws I' (lo + 146)) = I' from sB_id] at q
    have n0 : rws I' (lo + 146) 1 = I (lo + 147) := e
    simp only [n0, o3, w4] at q
    exact q)
  refine ⟨μ1, I2, ?_, h2⟩
  have hk1 := k1.trans hkb
  have kO := h.1.o.1
  have kM := hC1.M146.1
  simp (disch := omega) only [b312_660, b312_679, b312_698, b312_701, rdA_k hkb, rdA_k hk1, gO_k kO, gO_k kM, e1, k2, e2, eq_self, lgs, Jl0, Jl1, Jl2, Jl3, Jl4, Jl5, Jl6, Jl7, Jl8, Jl9, Jl10, Jl11, Jl12, Jl13, Jl14, Jl15, Jl16, Jl17, Jl18, Jl19, Jl20, Jl22, Jl24, Jl28, Jl30, Jl31, Jl32, Jl35, Jl36, Jl37, Jl38, Jl39, Jl40, Jl48, Jl57, Jl59, Jl60, Jl61, Jl63, Jl64, Jl68, Jl69, Jl96, Jl97, Jl98, Jl99, Jl100, Jl122, Jl149, Jl150, Jl165, Jl255, Jl511, Jl512, Jl600, Jl610, Jl940, Jl968, Jl999, Jl1134, Jl1152, Jl2048, Jl4608, Jl9999, Jl99999, Jl100000, Jl147456, Jl12345, Jl1103515245, Jl100000000, Jlm1, Jlm2, J_add, J_sub, J_mul, J_lt, J_le, J_eq, J_ite, J_cl, ri_j, wi_j, b2i_z, b2i_o, b2i_zo, Int.cast_ofNat_Int, Int.natCast_zero, Int.natCast_one, if_true, if_false, ite_self, Int.le_refl, J_bit, J_or, J_neg, J_oN, Int.reduceEq, Int.reduceLT, Int.reduceLE, Int.reduceNeg, Int.reduceAdd, Int.reduceSub, Int.reduceMul, Int.reduceToNat, J_shl, J_shr, V_ite, true_or, or_true, nz_j, J_div, J_rem, Option.bind_some, Option.toList_some, Option.toList_none, List.cons_append, List.nil_append, Jl21, Jl23, Jl25, Jl74, Jl83, Jl288, Jl324, Jl1800, Jlm8]
end LAW
