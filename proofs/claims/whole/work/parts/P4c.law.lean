/-! THE LAW: a question to both (by program) -/
section LAW
variable {E : (Nat → Value) × (Nat → Nat)} {lo b L d : Nat} {μ : rM} {I : Nat → Int → Int} {i : Int}
theorem op_arrears (hd : 20 ≤ d) (h : INV E lo b L μ I) (hi : 0 ≤ i ∧ i + 7 ≤ (L : Int)) : STP E lo b L d i (ex PG E lo d 312 1189 [some (.ref b), some (.ref lo), some (.ref ((lo + 146))), some (.int (J (i)))] [] (mj μ I)) := by
  have hl2 := h.2.2.1.2.2.1
  have hkb := h.2.2.1.2.1
  have a1 := h.b32 (j := i + 1) (by omega)
  have a2 := h.b32 (j := i + 2) (by omega)
  have a3 := h.b32 (j := i + 3) (by omega)
  have a4 := h.b32 (j := i + 4) (by omega)
  have a5 := h.b32 (j := i + 5) (by omega)
  have c0 := (h.cnt (s := 0) (by omega)).1
  have c1 := (h.cnt (s := 1) (by omega)).1
  have c2 := (h.cnt (s := 2) (by omega)).1
  have c3 := (h.cnt (s := 3) (by omega)).1
  have hc := c_arrears (E := E) (lo := lo) (d := d) (x := I b (i + 1)) (y := I b (i + 2)) (z := I b (i + 3)) (k := I b (i + 4)) (n := I b (i + 5)) (by omega) h.CK ⟨a1, a2, a3, a4, a5⟩ rfl rfl rfl rfl
  simp only [c0, c1, c2, c3, o3b, w4b] at hc
  obtain ⟨μ1, I1, I2, e1, e2, h2, k1, k2, hC1⟩ := bothQ (r2 := fun μ' I' => cl E lo d 265 [.ref (lo + 146), .int (J (I b (i + 1))), .int (J (I b (i + 2))), .int (J (I b (i + 3))), .int (J (I b (i + 4))), .int (J (I b (i + 5)))] (mj μ' I')) h hc (fun μ' I' f e hM => by
    have q := q_arrears (E := E) (lo := lo) (d := d) (I := I') (M := rws I' (lo + 146)) (x := I b (i + 1)) (y := I b (i + 2)) (z := I b (i + 3)) (k := I b (i + 4)) (n := I b (i + 5)) (T := rws I (lo + 74)) (by omega) hM (by omega) (h.tS e) (h.tL e) (h.tR e) ⟨a1, a2, a3, a4, a5⟩
    rw [show sB I' (lo + 146) 26 (rws I' (lo + 146)) = I' from sB_id] at q
    have n0 : rws I' (lo + 146) 1 = I (lo + 147) := e
    simp only [n0, o3, w4] at q
    exact q)
  refine ⟨μ1, I2, ?_, h2⟩
  have hk1 := k1.trans hkb
  have kO := h.1.o.1
  have kM := hC1.M146.1
  simp (disch := omega) only [b312_1189, b312_1218, b312_1247, b312_1250, rdA_k hkb, rdA_k hk1, gO_k kO, gO_k kM, e1, k2, e2, eq_self, lgs, Jl0, Jl1, Jl2, Jl3, Jl4, Jl5, Jl6, Jl7, Jl8, Jl9, Jl10, Jl11, Jl12, Jl13, Jl14, Jl15, Jl16, Jl17, Jl18, Jl19, Jl20, Jl22, Jl24, Jl28, Jl30, Jl31, Jl32, Jl35, Jl36, Jl37, Jl38, Jl39, Jl40, Jl48, Jl57, Jl59, Jl60, Jl61, Jl63, Jl64, Jl68, Jl69, Jl96, Jl97, Jl98, Jl99, Jl100, Jl122, Jl149, Jl150, Jl165, Jl255, Jl511, Jl512, Jl600, Jl610, Jl940, Jl968, Jl999, Jl1134, Jl1152, Jl2048, Jl4608, Jl9999, Jl99999, Jl100000, Jl147456, Jl12345, Jl1103515245, Jl100000000, Jlm1, Jlm2, J_add, J_sub, J_mul, J_lt, J_le, J_eq, J_ite, J_cl, ri_j, wi_j, b2i_z, b2i_o, b2i_zo, Int.cast_ofNat_Int, Int.natCast_zero, Int.natCast_one, if_true, if_false, ite_self, Int.le_refl, J_bit, J_or, J_neg, J_oN, Int.reduceEq, Int.reduceLT, Int.reduceLE, Int.reduceNeg, Int.reduceAdd, Int.reduceSub, Int.reduceMul, Int.reduceToNat, J_shl, J_shr, V_ite, true_or, or_true, nz_j, J_div, J_rem, Option.bind_some, Option.toList_some, Option.toList_none, List.cons_append, List.nil_append, Jl21, Jl23, Jl25, Jl74, Jl83, Jl288, Jl324, Jl1800, Jlm8]
theorem op_odds (hd : 20 ≤ d) (h : INV E lo b L μ I) (hi : 0 ≤ i ∧ i + 7 ≤ (L : Int)) : STP E lo b L d i (ex PG E lo d 312 1252 [some (.ref b), some (.ref lo), some (.ref ((lo + 146))), some (.int (J (i)))] [] (mj μ I)) := by
  have hl2 := h.2.2.1.2.2.1
  have hkb := h.2.2.1.2.1
  have a1 := h.b32 (j := i + 1) (by omega)
  have a2 := h.b32 (j := i + 2) (by omega)
  have a3 := h.b32 (j := i + 3) (by omega)
  have a4 := h.b32 (j := i + 4) (by omega)
  have c0 := (h.cnt (s := 0) (by omega)).1
  have c1 := (h.cnt (s := 1) (by omega)).1
  have c2 := (h.cnt (s := 2) (by omega)).1
  have c3 := (h.cnt (s := 3) (by omega)).1
  have cz0 := J_eq (a := I b (i + 4)) (b := 0) (by unfold i32 at a4; omega)
  by_cases cc : I b (i + 4) = 0
  · have cz : (J (I b (i + 4)) = J 0) = True := by rw [cz0]; exact eq_true cc
    have hc := c_odds (E := E) (lo := lo) (d := d) (x := I b (i + 1)) (y := I b (i + 2)) (k := I b (i + 3)) (b := false) (by omega) h.CK ⟨a1, a2, a3⟩ rfl rfl
    rw [b2i_f] at hc
    simp only [c0, c1, c2, c3, o3b, w4b] at hc
    obtain ⟨μ1, I1, I2, e1, e2, h2, k1, k2, hC1⟩ := bothQ (r2 := fun μ' I' => cl E lo d 267 [.ref (lo + 146), .int (J (I b (i + 1))), .int (J (I b (i + 2))), .int (J (I b (i + 3))), .int (J 0)] (mj μ' I')) h hc (fun μ' I' f e hM => by
      have q := q_odds (E := E) (lo := lo) (d := d) (I := I') (M := rws I' (lo + 146)) (x := I b (i + 1)) (y := I b (i + 2)) (k := I b (i + 3)) (b := false) (by omega) hM (by omega) (h.tS e) (h.tL e) ⟨a1, a2, a3⟩
      rw [show sB I' (lo + 146) 26 (rws I' (lo + 146)) = I' from sB_id, b2i_f] at q
      have n0 : rws I' (lo + 146) 1 = I (lo + 147) := e
      simp only [n0, o3, w4] at q
      exact q)
    refine ⟨μ1, I2, ?_, h2⟩
    have hk1 := k1.trans hkb
    have kO := h.1.o.1
    have kM := hC1.M146.1
    simp (disch := omega) only [b312_1252, b312_1276, b312_1280, b312_1281, b312_1284, b312_1308, b312_1312, b312_1313, b312_1316, b312_1319, rdA_k hkb, rdA_k hk1, gO_k kO, gO_k kM, e1, k2, e2, eq_self, lgs, cz, Jl0, Jl1, Jl2, Jl3, Jl4, Jl5, Jl6, Jl7, Jl8, Jl9, Jl10, Jl11, Jl12, Jl13, Jl14, Jl15, Jl16, Jl17, Jl18, Jl19, Jl20, Jl22, Jl24, Jl28, Jl30, Jl31, Jl32, Jl35, Jl36, Jl37, Jl38, Jl39, Jl40, Jl48, Jl57, Jl59, Jl60, Jl61, Jl63, Jl64, Jl68, Jl69, Jl96, Jl97, Jl98, Jl99, Jl100, Jl122, Jl149, Jl150, Jl165, Jl255, Jl511, Jl512, Jl600, Jl610, Jl940, Jl968, Jl999, Jl1134, Jl1152, Jl2048, Jl4608, Jl9999, Jl99999, Jl100000, Jl147456, Jl12345, Jl1103515245, Jl100000000, Jlm1, Jlm2, J_add, J_sub, J_mul, J_lt, J_le, J_eq, J_ite, J_cl, ri_j, wi_j, b2i_z, b2i_o, b2i_zo, Int.cast_ofNat_Int, Int.natCast_zero, Int.natCast_one, if_true, if_false, ite_self, Int.le_refl, J_bit, J_or, J_neg, J_oN, Int.reduceEq, Int.reduceLT, Int.reduceLE, Int.reduceNeg, Int.reduceAdd, Int.reduceSub, Int.reduceMul, Int.reduceToNat, J_shl, J_shr, V_ite, true_or, or_true, nz_j, J_div, J_rem, Option.bind_some, Option.toList_some, Option.toList_none, List.cons_append, List.nil_append, Jl21, Jl23, Jl25, Jl74, Jl83, Jl288, Jl324, Jl1800, Jlm8]
  · have cz : (J (I b (i + 4)) = J 0) = False := by rw [cz0]; exact eq_false cc
    have hc := c_odds (E := E) (lo := lo) (d := d) (x := I b (i + 1)) (y := I b (i + 2)) (k := I b (i + 3)) (b := true) (by omega) h.CK ⟨a1, a2, a3⟩ rfl rfl
    rw [b2i_t] at hc
    simp only [c0, c1, c2, c3, o3b, w4b] at hc
    obtain ⟨μ1, I1, I2, e1, e2, h2, k1, k2, hC1⟩ := bothQ (r2 := fun μ' I' => cl E lo d 267 [.ref (lo + 146), .int (J (I b (i + 1))), .int (J (I b (i + 2))), .int (J (I b (i + 3))), .int (J 1)] (mj μ' I')) h hc (fun μ' I' f e hM => by
      have q := q_odds (E := E) (lo := lo) (d := d) (I := I') (M := rws I' (lo + 146)) (x := I b (i + 1)) (y := I b (i + 2)) (k := I b (i + 3)) (b := true) (by omega) hM (by omega) (h.tS e) (h.tL e) ⟨a1, a2, a3⟩
      rw [show sB I' (lo + 146) 26 (rws I' (lo + 146)) = I' from sB_id, b2i_t] at q
      have n0 : rws I' (lo + 146) 1 = I (lo + 147) := e
      simp only [n0, o3, w4] at q
      exact q)
    refine ⟨μ1, I2, ?_, h2⟩
    have hk1 := k1.trans hkb
    have kO := h.1.o.1
    have kM := hC1.M146.1
    simp (disch := omega) only [b312_1252, b312_1276, b312_1280, b312_1281, b312_1284, b312_1308, b312_1312, b312_1313, b312_1316, b312_1319, rdA_k hkb, rdA_k hk1, gO_k kO, gO_k kM, e1, k2, e2, eq_self, lgs, cz, Jl0, Jl1, Jl2, Jl3, Jl4, Jl5, Jl6, Jl7, Jl8, Jl9, Jl10, Jl11, Jl12, Jl13, Jl14, Jl15, Jl16, Jl17, Jl18, Jl19, Jl20, Jl22, Jl24, Jl28, Jl30, Jl31, Jl32, Jl35, Jl36, Jl37, Jl38, Jl39, Jl40, Jl48, Jl57, Jl59, Jl60, Jl61, Jl63, Jl64, Jl68, Jl69, Jl96, Jl97, Jl98, Jl99, Jl100, Jl122, Jl149, Jl150, Jl165, Jl255, Jl511, Jl512, Jl600, Jl610, Jl940, Jl968, Jl999, Jl1134, Jl1152, Jl2048, Jl4608, Jl9999, Jl99999, Jl100000, Jl147456, Jl12345, Jl1103515245, Jl100000000, Jlm1, Jlm2, J_add, J_sub, J_mul, J_lt, J_le, J_eq, J_ite, J_cl, ri_j, wi_j, b2i_z, b2i_o, b2i_zo, Int.cast_ofNat_Int, Int.natCast_zero, Int.natCast_one, if_true, if_false, ite_self, Int.le_refl, J_bit, J_or, J_neg, J_oN, Int.reduceEq, Int.reduceLT, Int.reduceLE, Int.reduceNeg, Int.reduceAdd, Int.reduceSub, Int.reduceMul, Int.reduceToNat, J_shl, J_shr, V_ite, true_or, or_true, nz_j, J_div, J_rem, Option.bind_some, Option.toList_some, Option.toList_none, List.cons_append, List.nil_append, Jl21, Jl23, Jl25, Jl74, Jl83, Jl288, Jl324, Jl1800, Jlm8]
theorem op_drawn (hd : 20 ≤ d) (h : INV E lo b L μ I) (hi : 0 ≤ i ∧ i + 7 ≤ (L : Int)) : STP E lo b L d i (ex PG E lo d 312 1321 [some (.ref b), some (.ref lo), some (.ref ((lo + 146))), some (.int (J (i)))] [] (mj μ I)) := by
  have hl2 := h.2.2.1.2.2.1
  have hkb := h.2.2.1.2.1
  have a1 := h.b32 (j := i + 1) (by omega)
  have a2 := h.b32 (j := i + 2) (by omega)
  have a3 := h.b32 (j := i + 3) (by omega)
  have a4 := h.b32 (j := i + 4) (by omega)
  have a5 := h.b32 (j := i + 5) (by omega)
  have a6 := h.b32 (j := i + 6) (by omega)
  have c0 := (h.cnt (s := 0) (by omega)).1
  have c1 := (h.cnt (s := 1) (by omega)).1
  have c2 := (h.cnt (s := 2) (by omega)).1
  have c3 := (h.cnt (s := 3) (by omega)).1
  have hc := c_drawn (E := E) (lo := lo) (d := d) (x := I b (i + 1)) (y := I b (i + 2)) (z := I b (i + 3)) (sd := I b (i + 4)) (n := I b (i + 5)) (w := I b (i + 6)) (by omega) h.CK ⟨a1, a2, a3, a5, a6⟩ rfl rfl rfl rfl
  simp only [c0, c1, c2, c3, o3b, w4b] at hc
  obtain ⟨μ1, I1, I2, e1, e2, h2, k1, k2, hC1⟩ := bothQ (r2 := fun μ' I' => cl E lo d 270 [.ref (lo + 146), .int (J (I b (i + 1))), .int (J (I b (i + 2))), .int (J (I b (i + 3))), .int (J (I b (i + 4))), .int (J (I b (i + 5))), .int (J (I b (i + 6)))] (mj μ' I')) h hc (fun μ' I' f e hM => by
    have q := q_drawn (E := E) (lo := lo) (d := d) (I := I') (M := rws I' (lo + 146)) (x := I b (i + 1)) (y := I b (i + 2)) (z := I b (i + 3)) (sd := I b (i + 4)) (n := I b (i + 5)) (w := I b (i + 6)) (T := rws I (lo + 74)) (by omega) hM (by omega) (h.tS e) (h.tL e) (h.tR e) ⟨a1, a2, a3, a5, a6⟩
    rw [show sB I' (lo + 146) 26 (rws I' (lo + 146)) = I' from sB_id] at q
    have n0 : rws I' (lo + 146) 1 = I (lo + 147) := e
    simp only [n0, o3, w4] at q
    exact q)
  refine ⟨μ1, I2, ?_, h2⟩
  have hk1 := k1.trans hkb
  have kO := h.1.o.1
  have kM := hC1.M146.1
  simp (disch := omega) only [b312_1321, b312_1356, b312_1391, b312_1394, rdA_k hkb, rdA_k hk1, gO_k kO, gO_k kM, e1, k2, e2, eq_self, lgs, Jl0, Jl1, Jl2, Jl3, Jl4, Jl5, Jl6, Jl7, Jl8, Jl9, Jl10, Jl11, Jl12, Jl13, Jl14, Jl15, Jl16, Jl17, Jl18, Jl19, Jl20, Jl22, Jl24, Jl28, Jl30, Jl31, Jl32, Jl35, Jl36, Jl37, Jl38, Jl39, Jl40, Jl48, Jl57, Jl59, Jl60, Jl61, Jl63, Jl64, Jl68, Jl69, Jl96, Jl97, Jl98, Jl99, Jl100, Jl122, Jl149, Jl150, Jl165, Jl255, Jl511, Jl512, Jl600, Jl610, Jl940, Jl968, Jl999, Jl1134, Jl1152, Jl2048, Jl4608, Jl9999, Jl99999, Jl100000, Jl147456, Jl12345, Jl1103515245, Jl100000000, Jlm1, Jlm2, J_add, J_sub, J_mul, J_lt, J_le, J_eq, J_ite, J_cl, ri_j, wi_j, b2i_z, b2i_o, b2i_zo, Int.cast_ofNat_Int, Int.natCast_zero, Int.natCast_one, if_true, if_false, ite_self, Int.le_refl, J_bit, J_or, J_neg, J_oN, Int.reduceEq, Int.reduceLT, Int.reduceLE, Int.reduceNeg, Int.reduceAdd, Int.reduceSub, Int.reduceMul, Int.reduceToNat, J_shl, J_shr, V_ite, true_or, or_true, nz_j, J_div, J_rem, Option.bind_some, Option.toList_some, Option.toList_none, List.cons_append, List.nil_append, Jl21, Jl23, Jl25, Jl74, Jl83, Jl288, Jl324, Jl1800, Jlm8]
theorem op_loud (hd : 20 ≤ d) (h : INV E lo b L μ I) (hi : 0 ≤ i ∧ i + 7 ≤ (L : Int)) : STP E lo b L d i (ex PG E lo d 312 1396 [some (.ref b), some (.ref lo), some (.ref ((lo + 146))), some (.int (J (i)))] [] (mj μ I)) := by
  have hl2 := h.2.2.1.2.2.1
  have hkb := h.2.2.1.2.1
  have a1 := h.b32 (j := i + 1) (by omega)
  have a2 := h.b32 (j := i + 2) (by omega)
  have a3 := h.b32 (j := i + 3) (by omega)
  have c0 := (h.cnt (s := 0) (by omega)).1
  have c1 := (h.cnt (s := 1) (by omega)).1
  have c2 := (h.cnt (s := 2) (by omega)).1
  have c3 := (h.cnt (s := 3) (by omega)).1
  have cz0 := J_eq (a := I b (i + 3)) (b := 0) (by unfold i32 at a3; omega)
  by_cases cc : I b (i + 3) = 0
  · have cz : (J (I b (i + 3)) = J 0) = True := by rw [cz0]; exact eq_true cc
    have hc := c_loud (E := E) (lo := lo) (d := d) (x := I b (i + 1)) (u := I b (i + 2)) (b := false) (by omega) h.1 h.TOK ⟨a1, a2⟩
    rw [b2i_f] at hc
    simp only [c0, c1, c2, c3, o3b, w4b] at hc
    obtain ⟨μ1, I1, I2, e1, e2, h2, k1, k2, hC1⟩ := bothQ (r2 := fun μ' I' => cl E lo d 271 [.ref (lo + 146), .int (J (I b (i + 1))), .int (J (I b (i + 2))), .int (J 0)] (mj μ' I')) h ⟨μ, I, hc, FQ.r⟩ (fun μ' I' f e hM => by
      have q := q_loud (E := E) (lo := lo) (d := d) (I := I') (M := rws I' (lo + 146)) (x := I b (i + 1)) (u := I b (i + 2)) (b := false) (by omega) hM (by omega) (h.tS e) ⟨a1, a2⟩
      rw [show sB I' (lo + 146) 26 (rws I' (lo + 146)) = I' from sB_id, b2i_f] at q
      have n0 : rws I' (lo + 146) 1 = I (lo + 147) := e
      simp only [n0, o3, w4] at q
      exact q)
    refine ⟨μ1, I2, ?_, h2⟩
    have hk1 := k1.trans hkb
    have kO := h.1.o.1
    have kM := hC1.M146.1
    simp (disch := omega) only [b312_1396, b312_1415, b312_1419, b312_1420, b312_1423, b312_1442, b312_1446, b312_1447, b312_1450, b312_1453, rdA_k hkb, rdA_k hk1, gO_k kO, gO_k kM, e1, k2, e2, eq_self, lgs, cz, Jl0, Jl1, Jl2, Jl3, Jl4, Jl5, Jl6, Jl7, Jl8, Jl9, Jl10, Jl11, Jl12, Jl13, Jl14, Jl15, Jl16, Jl17, Jl18, Jl19, Jl20, Jl22, Jl24, Jl28, Jl30, Jl31, Jl32, Jl35, Jl36, Jl37, Jl38, Jl39, Jl40, Jl48, Jl57, Jl59, Jl60, Jl61, Jl63, Jl64, Jl68, Jl69, Jl96, Jl97, Jl98, Jl99, Jl100, Jl122, Jl149, Jl150, Jl165, Jl255, Jl511, Jl512, Jl600, Jl610, Jl940, Jl968, Jl999, Jl1134, Jl1152, Jl2048, Jl4608, Jl9999, Jl99999, Jl100000, Jl147456, Jl12345, Jl1103515245, Jl100000000, Jlm1, Jlm2, J_add, J_sub, J_mul, J_lt, J_le, J_eq, J_ite, J_cl, ri_j, wi_j, b2i_z, b2i_o, b2i_zo, Int.cast_ofNat_Int, Int.natCast_zero, Int.natCast_one, if_true, if_false, ite_self, Int.le_refl, J_bit, J_or, J_neg, J_oN, Int.reduceEq, Int.reduceLT, Int.reduceLE, Int.reduceNeg, Int.reduceAdd, Int.reduceSub, Int.reduceMul, Int.reduceToNat, J_shl, J_shr, V_ite, true_or, or_true, nz_j, J_div, J_rem, Option.bind_some, Option.toList_some, Option.toList_none, List.cons_append, List.nil_append, Jl21, Jl23, Jl25, Jl74, Jl83, Jl288, Jl324, Jl1800, Jlm8]
  · have cz : (J (I b (i + 3)) = J 0) = False := by rw [cz0]; exact eq_false cc
    have hc := c_loud (E := E) (lo := lo) (d := d) (x := I b (i + 1)) (u := I b (i + 2)) (b := true) (by omega) h.1 h.TOK ⟨a1, a2⟩
    rw [b2i_t] at hc
    simp only [c0, c1, c2, c3, o3b, w4b] at hc
    obtain ⟨μ1, I1, I2, e1, e2, h2, k1, k2, hC1⟩ := bothQ (r2 := fun μ' I' => cl E lo d 271 [.ref (lo + 146), .int (J (I b (i + 1))), .int (J (I b (i + 2))), .int (J 1)] (mj μ' I')) h ⟨μ, I, hc, FQ.r⟩ (fun μ' I' f e hM => by
      have q := q_loud (E := E) (lo := lo) (d := d) (I := I') (M := rws I' (lo + 146)) (x := I b (i + 1)) (u := I b (i + 2)) (b := true) (by omega) hM (by omega) (h.tS e) ⟨a1, a2⟩
      rw [show sB I' (lo + 146) 26 (rws I' (lo + 146)) = I' from sB_id, b2i_t] at q
      have n0 : rws I' (lo + 146) 1 = I (lo + 147) := e
      simp only [n0, o3, w4] at q
      exact q)
    refine ⟨μ1, I2, ?_, h2⟩
    have hk1 := k1.trans hkb
    have kO := h.1.o.1
    have kM := hC1.M146.1
    simp (disch := omega) only [b312_1396, b312_1415, b312_1419, b312_1420, b312_1423, b312_1442, b312_1446, b312_1447, b312_1450, b312_1453, rdA_k hkb, rdA_k hk1, gO_k kO, gO_k kM, e1, k2, e2, eq_self, lgs, cz, Jl0, Jl1, Jl2, Jl3, Jl4, Jl5, Jl6, Jl7, Jl8, Jl9, Jl10, Jl11, Jl12, Jl13, Jl14, Jl15, Jl16, Jl17, Jl18, Jl19, Jl20, Jl22, Jl24, Jl28, Jl30, Jl31, Jl32, Jl35, Jl36, Jl37, Jl38, Jl39, Jl40, Jl48, Jl57, Jl59, Jl60, Jl61, Jl63, Jl64, Jl68, Jl69, Jl96, Jl97, Jl98, Jl99, Jl100, Jl122, Jl149, Jl150, Jl165, Jl255, Jl511, Jl512, Jl600, Jl610, Jl940, Jl968, Jl999, Jl1134, Jl1152, Jl2048, Jl4608, Jl9999, Jl99999, Jl100000, Jl147456, Jl12345, Jl1103515245, Jl100000000, Jlm1, Jlm2, J_add, J_sub, J_mul, J_lt, J_le, J_eq, J_ite, J_cl, ri_j, wi_j, b2i_z, b2i_o, b2i_zo, Int.cast_ofNat_Int, Int.natCast_zero, Int.natCast_one, if_true, if_false, ite_self, Int.le_refl, J_bit, J_or, J_neg, J_oN, Int.reduceEq, Int.reduceLT, Int.reduceLE, Int.reduceNeg, Int.reduceAdd, Int.reduceSub, Int.reduceMul, Int.reduceToNat, J_shl, J_shr, V_ite, true_or, or_true, nz_j, J_div, J_rem, Option.bind_some, Option.toList_some, Option.toList_none, List.cons_append, List.nil_append, Jl21, Jl23, Jl25, Jl74, Jl83, Jl288, Jl324, Jl1800, Jlm8]
theorem op_calm (hd : 20 ≤ d) (h : INV E lo b L μ I) (hi : 0 ≤ i ∧ i + 7 ≤ (L : Int)) : STP E lo b L d i (ex PG E lo d 312 1455 [some (.ref b), some (.ref lo), some (.ref ((lo + 146))), some (.int (J (i)))] [] (mj μ I)) := by
  have hl2 := h.2.2.1.2.2.1
  have hkb := h.2.2.1.2.1
  have a1 := h.b32 (j := i + 1) (by omega)
  have a2 := h.b32 (j := i + 2) (by omega)
  have c0 := (h.cnt (s := 0) (by omega)).1
  have c1 := (h.cnt (s := 1) (by omega)).1
  have c2 := (h.cnt (s := 2) (by omega)).1
  have c3 := (h.cnt (s := 3) (by omega)).1
  have hc := c_calm (E := E) (lo := lo) (d := d) (x := I b (i + 1)) (y := I b (i + 2)) (by omega) h.CK ⟨a1, a2⟩ rfl rfl
  simp only [c0, c1, c2, c3, o3b, w4b] at hc
  obtain ⟨μ1, I1, I2, e1, e2, h2, k1, k2, hC1⟩ := bothQ (r2 := fun μ' I' => cl E lo d 272 [.ref (lo + 146), .int (J (I b (i + 1))), .int (J (I b (i + 2)))] (mj μ' I')) h hc (fun μ' I' f e hM => by
    have q := q_calm (E := E) (lo := lo) (d := d) (I := I') (M := rws I' (lo + 146)) (x := I b (i + 1)) (y := I b (i + 2)) (by omega) hM (by omega) (h.tS e) (h.tL e) ⟨a1, a2⟩
    rw [show sB I' (lo + 146) 26 (rws I' (lo + 146)) = I' from sB_id] at q
    have n0 : rws I' (lo + 146) 1 = I (lo + 147) := e
    simp only [n0, o3, w4] at q
    exact q)
  refine ⟨μ1, I2, ?_, h2⟩
  have hk1 := k1.trans hkb
  have kO := h.1.o.1
  have kM := hC1.M146.1
  simp (disch := omega) only [b312_1455, b312_1469, b312_1483, b312_1486, rdA_k hkb, rdA_k hk1, gO_k kO, gO_k kM, e1, k2, e2, eq_self, lgs, Jl0, Jl1, Jl2, Jl3, Jl4, Jl5, Jl6, Jl7, Jl8, Jl9, Jl10, Jl11, Jl12, Jl13, Jl14, Jl15, Jl16, Jl17, Jl18, Jl19, Jl20, Jl22, Jl24, Jl28, Jl30, Jl31, Jl32, Jl35, Jl36, Jl37, Jl38, Jl39, Jl40, Jl48, Jl57, Jl59, Jl60, Jl61, Jl63, Jl64, Jl68, Jl69, Jl96, Jl97, Jl98, Jl99, Jl100, Jl122, Jl149, Jl150, Jl165, Jl255, Jl511, Jl512, Jl600, Jl610, Jl940, Jl968, Jl999, Jl1134, Jl1152, Jl2048, Jl4608, Jl9999, Jl99999, Jl100000, Jl147456, Jl12345, Jl1103515245, Jl100000000, Jlm1, Jlm2, J_add, J_sub, J_mul, J_lt, J_le, J_eq, J_ite, J_cl, ri_j, wi_j, b2i_z, b2i_o, b2i_zo, Int.cast_ofNat_Int, Int.natCast_zero, Int.natCast_one, if_true, if_false, ite_self, Int.le_refl, J_bit, J_or, J_neg, J_oN, Int.reduceEq, Int.reduceLT, Int.reduceLE, Int.reduceNeg, Int.reduceAdd, Int.reduceSub, Int.reduceMul, Int.reduceToNat, J_shl, J_shr, V_ite, true_or, or_true, nz_j, J_div, J_rem, Option.bind_some, Option.toList_some, Option.toList_none, List.cons_append, List.nil_append, Jl21, Jl23, Jl25, Jl74, Jl83, Jl288, Jl324, Jl1800, Jlm8]
theorem op_paid (hd : 20 ≤ d) (h : INV E lo b L μ I) (hi : 0 ≤ i ∧ i + 7 ≤ (L : Int)) : STP E lo b L d i (ex PG E lo d 312 1488 [some (.ref b), some (.ref lo), some (.ref ((lo + 146))), some (.int (J (i)))] [] (mj μ I)) := by
  have hl2 := h.2.2.1.2.2.1
  have hkb := h.2.2.1.2.1
  have a1 := h.b32 (j := i + 1) (by omega)
  have a2 := h.b32 (j := i + 2) (by omega)
  have a3 := h.b32 (j := i + 3) (by omega)
  have a4 := h.b32 (j := i + 4) (by omega)
  have a5 := h.b32 (j := i + 5) (by omega)
  have c0 := (h.cnt (s := 0) (by omega)).1
  have c1 := (h.cnt (s := 1) (by omega)).1
  have c2 := (h.cnt (s := 2) (by omega)).1
  have c3 := (h.cnt (s := 3) (by omega)).1
  have cz0 := J_eq (a := I b (i + 5)) (b := 0) (by unfold i32 at a5; omega)
  by_cases cc : I b (i + 5) = 0
  · have cz : (J (I b (i + 5)) = J 0) = True := by rw [cz0]; exact eq_true cc
    have hc := c_paid (E := E) (lo := lo) (d := d) (x := I b (i + 1)) (y := I b (i + 2)) (z := I b (i + 3)) (n := I b (i + 4)) (b := false) (by omega) h.CK ⟨a1, a2, a3, a4⟩ rfl rfl rfl rfl
    rw [b2i_f] at hc
    simp only [c0, c1, c2, c3, o3b, w4b] at hc
    obtain ⟨μ1, I1, I2, e1, e2, h2, k1, k2, hC1⟩ := bothQ (r2 := fun μ' I' => cl E lo d 273 [.ref (lo + 146), .int (J (I b (i + 1))), .int (J (I b (i + 2))), .int (J (I b (i + 3))), .int (J (I b (i + 4))), .int (J 0)] (mj μ' I')) h hc (fun μ' I' f e hM => by
      have q := q_paid (E := E) (lo := lo) (d := d) (I := I') (M := rws I' (lo + 146)) (x := I b (i + 1)) (y := I b (i + 2)) (z := I b (i + 3)) (n := I b (i + 4)) (b := false) (T := rws I (lo + 74)) (by omega) hM (by omega) (h.tS e) (h.tL e) (h.tR e) ⟨a1, a2, a3, a4⟩
      rw [show sB I' (lo + 146) 26 (rws I' (lo + 146)) = I' from sB_id, b2i_f] at q
      have n0 : rws I' (lo + 146) 1 = I (lo + 147) := e
      simp only [n0, o3, w4] at q
      exact q)
    refine ⟨μ1, I2, ?_, h2⟩
    have hk1 := k1.trans hkb
    have kO := h.1.o.1
    have kM := hC1.M146.1
    simp (disch := omega) only [b312_1488, b312_1517, b312_1521, b312_1522, b312_1525, b312_1554, b312_1558, b312_1559, b312_1562, b312_1565, rdA_k hkb, rdA_k hk1, gO_k kO, gO_k kM, e1, k2, e2, eq_self, lgs, cz, Jl0, Jl1, Jl2, Jl3, Jl4, Jl5, Jl6, Jl7, Jl8, Jl9, Jl10, Jl11, Jl12, Jl13, Jl14, Jl15, Jl16, Jl17, Jl18, Jl19, Jl20, Jl22, Jl24, Jl28, Jl30, Jl31, Jl32, Jl35, Jl36, Jl37, Jl38, Jl39, Jl40, Jl48, Jl57, Jl59, Jl60, Jl61, Jl63, Jl64, Jl68, Jl69, Jl96, Jl97, Jl98, Jl99, Jl100, Jl122, Jl149, Jl150, Jl165, Jl255, Jl511, Jl512, Jl600, Jl610, Jl940, Jl968, Jl999, Jl1134, Jl1152, Jl2048, Jl4608, Jl9999, Jl99999, Jl100000, Jl147456, Jl12345, Jl1103515245, Jl100000000, Jlm1, Jlm2, J_add, J_sub, J_mul, J_lt, J_le, J_eq, J_ite, J_cl, ri_j, wi_j, b2i_z, b2i_o, b2i_zo, Int.cast_ofNat_Int, Int.natCast_zero, Int.natCast_one, if_true, if_false, ite_self, Int.le_refl, J_bit, J_or, J_neg, J_oN, Int.reduceEq, Int.reduceLT, Int.reduceLE, Int.reduceNeg, Int.reduceAdd, Int.reduceSub, Int.reduceMul, Int.reduceToNat, J_shl, J_shr, V_ite, true_or, or_true, nz_j, J_div, J_rem, Option.bind_some, Option.toList_some, Option.toList_none, List.cons_append, List.nil_append, Jl21, Jl23, Jl25, Jl74, Jl83, Jl288, Jl324, Jl1800, Jlm8]
  · have cz : (J (I b (i + 5)) = J 0) = False := by rw [cz0]; exact eq_false cc
    have hc := c_paid (E := E) (lo := lo) (d := d) (x := I b (i + 1)) (y := I b (i + 2)) (z := I b (i + 3)) (n := I b (i + 4)) (b := true) (by omega) h.CK ⟨a1, a2, a3, a4⟩ rfl rfl rfl rfl
    rw [b2i_t] at hc
    simp only [c0, c1, c2, c3, o3b, w4b] at hc
    obtain ⟨μ1, I1, I2, e1, e2, h2, k1, k2, hC1⟩ := bothQ (r2 := fun μ' I' => cl E lo d 273 [.ref (lo + 146), .int (J (I b (i + 1))), .int (J (I b (i + 2))), .int (J (I b (i + 3))), .int (J (I b (i + 4))), .int (J 1)] (mj μ' I')) h hc (fun μ' I' f e hM => by
      have q := q_paid (E := E) (lo := lo) (d := d) (I := I') (M := rws I' (lo + 146)) (x := I b (i + 1)) (y := I b (i + 2)) (z := I b (i + 3)) (n := I b (i + 4)) (b := true) (T := rws I (lo + 74)) (by omega) hM (by omega) (h.tS e) (h.tL e) (h.tR e) ⟨a1, a2, a3, a4⟩
      rw [show sB I' (lo + 146) 26 (rws I' (lo + 146)) = I' from sB_id, b2i_t] at q
      have n0 : rws I' (lo + 146) 1 = I (lo + 147) := e
      simp only [n0, o3, w4] at q
      exact q)
    refine ⟨μ1, I2, ?_, h2⟩
    have hk1 := k1.trans hkb
    have kO := h.1.o.1
    have kM := hC1.M146.1
    simp (disch := omega) only [b312_1488, b312_1517, b312_1521, b312_1522, b312_1525, b312_1554, b312_1558, b312_1559, b312_1562, b312_1565, rdA_k hkb, rdA_k hk1, gO_k kO, gO_k kM, e1, k2, e2, eq_self, lgs, cz, Jl0, Jl1, Jl2, Jl3, Jl4, Jl5, Jl6, Jl7, Jl8, Jl9, Jl10, Jl11, Jl12, Jl13, Jl14, Jl15, Jl16, Jl17, Jl18, Jl19, Jl20, Jl22, Jl24, Jl28, Jl30, Jl31, Jl32, Jl35, Jl36, Jl37, Jl38, Jl39, Jl40, Jl48, Jl57, Jl59, Jl60, Jl61, Jl63, Jl64, Jl68, Jl69, Jl96, Jl97, Jl98, Jl99, Jl100, Jl122, Jl149, Jl150, Jl165, Jl255, Jl511, Jl512, Jl600, Jl610, Jl940, Jl968, Jl999, Jl1134, Jl1152, Jl2048, Jl4608, Jl9999, Jl99999, Jl100000, Jl147456, Jl12345, Jl1103515245, Jl100000000, Jlm1, Jlm2, J_add, J_sub, J_mul, J_lt, J_le, J_eq, J_ite, J_cl, ri_j, wi_j, b2i_z, b2i_o, b2i_zo, Int.cast_ofNat_Int, Int.natCast_zero, Int.natCast_one, if_true, if_false, ite_self, Int.le_refl, J_bit, J_or, J_neg, J_oN, Int.reduceEq, Int.reduceLT, Int.reduceLE, Int.reduceNeg, Int.reduceAdd, Int.reduceSub, Int.reduceMul, Int.reduceToNat, J_shl, J_shr, V_ite, true_or, or_true, nz_j, J_div, J_rem, Option.bind_some, Option.toList_some, Option.toList_none, List.cons_append, List.nil_append, Jl21, Jl23, Jl25, Jl74, Jl83, Jl288, Jl324, Jl1800, Jlm8]
theorem op_twice (hd : 20 ≤ d) (h : INV E lo b L μ I) (hi : 0 ≤ i ∧ i + 7 ≤ (L : Int)) : STP E lo b L d i (ex PG E lo d 312 1567 [some (.ref b), some (.ref lo), some (.ref ((lo + 146))), some (.int (J (i)))] [] (mj μ I)) := by
  have hl2 := h.2.2.1.2.2.1
  have hkb := h.2.2.1.2.1
  have a1 := h.b32 (j := i + 1) (by omega)
  have a2 := h.b32 (j := i + 2) (by omega)
  have a3 := h.b32 (j := i + 3) (by omega)
  have a4 := h.b32 (j := i + 4) (by omega)
  have a5 := h.b32 (j := i + 5) (by omega)
  have c0 := (h.cnt (s := 0) (by omega)).1
  have c1 := (h.cnt (s := 1) (by omega)).1
  have c2 := (h.cnt (s := 2) (by omega)).1
  have c3 := (h.cnt (s := 3) (by omega)).1
  have cz0 := J_eq (a := I b (i + 5)) (b := 0) (by unfold i32 at a5; omega)
  by_cases cc : I b (i + 5) = 0
  · have cz : (J (I b (i + 5)) = J 0) = True := by rw [cz0]; exact eq_true cc
    have hc := c_twice (E := E) (lo := lo) (d := d) (x := I b (i + 1)) (y := I b (i + 2)) (z := I b (i + 3)) (k := I b (i + 4)) (bb := false) (by omega) h.CK ⟨a1, a2, a3, a4⟩ rfl rfl rfl rfl
    rw [b2i_f] at hc
    simp only [c0, c1, c2, c3, o3b, w4b] at hc
    obtain ⟨μ1, I1, I2, e1, e2, h2, k1, k2, hC1⟩ := bothQ (r2 := fun μ' I' => cl E lo d 274 [.ref (lo + 146), .int (J (I b (i + 1))), .int (J (I b (i + 2))), .int (J (I b (i + 3))), .int (J (I b (i + 4))), .int (J 0)] (mj μ' I')) h hc (fun μ' I' f e hM => by
      have q := q_twice (E := E) (lo := lo) (d := d) (I := I') (M := rws I' (lo + 146)) (x := I b (i + 1)) (y := I b (i + 2)) (z := I b (i + 3)) (k := I b (i + 4)) (b := false) (T := rws I (lo + 74)) (by omega) hM (by omega) (h.tS e) (h.tL e) (h.tR e) ⟨a1, a2, a3, a4⟩
      rw [show sB I' (lo + 146) 26 (rws I' (lo + 146)) = I' from sB_id, b2i_f] at q
      have n0 : rws I' (lo + 146) 1 = I (lo + 147) := e
      simp only [n0, o3, w4] at q
      exact q)
    refine ⟨μ1, I2, ?_, h2⟩
    have hk1 := k1.trans hkb
    have kO := h.1.o.1
    have kM := hC1.M146.1
    simp (disch := omega) only [b312_1567, b312_1596, b312_1600, b312_1601, b312_1604, b312_1633, b312_1637, b312_1638, b312_1641, b312_1644, rdA_k hkb, rdA_k hk1, gO_k kO, gO_k kM, e1, k2, e2, eq_self, lgs, cz, Jl0, Jl1, Jl2, Jl3, Jl4, Jl5, Jl6, Jl7, Jl8, Jl9, Jl10, Jl11, Jl12, Jl13, Jl14, Jl15, Jl16, Jl17, Jl18, Jl19, Jl20, Jl22, Jl24, Jl28, Jl30, Jl31, Jl32, Jl35, Jl36, Jl37, Jl38, Jl39, Jl40, Jl48, Jl57, Jl59, Jl60, Jl61, Jl63, Jl64, Jl68, Jl69, Jl96, Jl97, Jl98, Jl99, Jl100, Jl122, Jl149, Jl150, Jl165, Jl255, Jl511, Jl512, Jl600, Jl610, Jl940, Jl968, Jl999, Jl1134, Jl1152, Jl2048, Jl4608, Jl9999, Jl99999, Jl100000, Jl147456, Jl12345, Jl1103515245, Jl100000000, Jlm1, Jlm2, J_add, J_sub, J_mul, J_lt, J_le, J_eq, J_ite, J_cl, ri_j, wi_j, b2i_z, b2i_o, b2i_zo, Int.cast_ofNat_Int, Int.natCast_zero, Int.natCast_one, if_true, if_false, ite_self, Int.le_refl, J_bit, J_or, J_neg, J_oN, Int.reduceEq, Int.reduceLT, Int.reduceLE, Int.reduceNeg, Int.reduceAdd, Int.reduceSub, Int.reduceMul, Int.reduceToNat, J_shl, J_shr, V_ite, true_or, or_true, nz_j, J_div, J_rem, Option.bind_some, Option.toList_some, Option.toList_none, List.cons_append, List.nil_append, Jl21, Jl23, Jl25, Jl74, Jl83, Jl288, Jl324, Jl1800, Jlm8]
  · have cz : (J (I b (i + 5)) = J 0) = False := by rw [cz0]; exact eq_false cc
    have hc := c_twice (E := E) (lo := lo) (d := d) (x := I b (i + 1)) (y := I b (i + 2)) (z := I b (i + 3)) (k := I b (i + 4)) (bb := true) (by omega) h.CK ⟨a1, a2, a3, a4⟩ rfl rfl rfl rfl
    rw [b2i_t] at hc
    simp only [c0, c1, c2, c3, o3b, w4b] at hc
    obtain ⟨μ1, I1, I2, e1, e2, h2, k1, k2, hC1⟩ := bothQ (r2 := fun μ' I' => cl E lo d 274 [.ref (lo + 146), .int (J (I b (i + 1))), .int (J (I b (i + 2))), .int (J (I b (i + 3))), .int (J (I b (i + 4))), .int (J 1)] (mj μ' I')) h hc (fun μ' I' f e hM => by
      have q := q_twice (E := E) (lo := lo) (d := d) (I := I') (M := rws I' (lo + 146)) (x := I b (i + 1)) (y := I b (i + 2)) (z := I b (i + 3)) (k := I b (i + 4)) (b := true) (T := rws I (lo + 74)) (by omega) hM (by omega) (h.tS e) (h.tL e) (h.tR e) ⟨a1, a2, a3, a4⟩
      rw [show sB I' (lo + 146) 26 (rws I' (lo + 146)) = I' from sB_id, b2i_t] at q
      have n0 : rws I' (lo + 146) 1 = I (lo + 147) := e
      simp only [n0, o3, w4] at q
      exact q)
    refine ⟨μ1, I2, ?_, h2⟩
    have hk1 := k1.trans hkb
    have kO := h.1.o.1
    have kM := hC1.M146.1
    simp (disch := omega) only [b312_1567, b312_1596, b312_1600, b312_1601, b312_1604, b312_1633, b312_1637, b312_1638, b312_1641, b312_1644, rdA_k hkb, rdA_k hk1, gO_k kO, gO_k kM, e1, k2, e2, eq_self, lgs, cz, Jl0, Jl1, Jl2, Jl3, Jl4, Jl5, Jl6, Jl7, Jl8, Jl9, Jl10, Jl11, Jl12, Jl13, Jl14, Jl15, Jl16, Jl17, Jl18, Jl19, Jl20, Jl22, Jl24, Jl28, Jl30, Jl31, Jl32, Jl35, Jl36, Jl37, Jl38, Jl39, Jl40, Jl48, Jl57, Jl59, Jl60, Jl61, Jl63, Jl64, Jl68, Jl69, Jl96, Jl97, Jl98, Jl99, Jl100, Jl122, Jl149, Jl150, Jl165, Jl255, Jl511, Jl512, Jl600, Jl610, Jl940, Jl968, Jl999, Jl1134, Jl1152, Jl2048, Jl4608, Jl9999, Jl99999, Jl100000, Jl147456, Jl12345, Jl1103515245, Jl100000000, Jlm1, Jlm2, J_add, J_sub, J_mul, J_lt, J_le, J_eq, J_ite, J_cl, ri_j, wi_j, b2i_z, b2i_o, b2i_zo, Int.cast_ofNat_Int, Int.natCast_zero, Int.natCast_one, if_true, if_false, ite_self, Int.le_refl, J_bit, J_or, J_neg, J_oN, Int.reduceEq, Int.reduceLT, Int.reduceLE, Int.reduceNeg, Int.reduceAdd, Int.reduceSub, Int.reduceMul, Int.reduceToNat, J_shl, J_shr, V_ite, true_or, or_true, nz_j, J_div, J_rem, Option.bind_some, Option.toList_some, Option.toList_none, List.cons_append, List.nil_append, Jl21, Jl23, Jl25, Jl74, Jl83, Jl288, Jl324, Jl1800, Jlm8]
theorem op_share (hd : 20 ≤ d) (h : INV E lo b L μ I) (hi : 0 ≤ i ∧ i + 7 ≤ (L : Int)) : STP E lo b L d i (ex PG E lo d 312 1646 [some (.ref b), some (.ref lo), some (.ref ((lo + 146))), some (.int (J (i)))] [] (mj μ I)) := by
  have hl2 := h.2.2.1.2.2.1
  have hkb := h.2.2.1.2.1
  have a1 := h.b32 (j := i + 1) (by omega)
  have a2 := h.b32 (j := i + 2) (by omega)
  have a3 := h.b32 (j := i + 3) (by omega)
  have a4 := h.b32 (j := i + 4) (by omega)
  have a5 := h.b32 (j := i + 5) (by omega)
  have c0 := (h.cnt (s := 0) (by omega)).1
  have c1 := (h.cnt (s := 1) (by omega)).1
  have c2 := (h.cnt (s := 2) (by omega)).1
  have c3 := (h.cnt (s := 3) (by omega)).1
  have cz0 := J_eq (a := I b (i + 5)) (b := 0) (by unfold i32 at a5; omega)
  by_cases cc : I b (i + 5) = 0
  · have cz : (J (I b (i + 5)) = J 0) = True := by rw [cz0]; exact eq_true cc
    have hc := c_share (E := E) (lo := lo) (d := d) (x := I b (i + 1)) (y := I b (i + 2)) (z := I b (i + 3)) (h := I b (i + 4)) (b := false) (by omega) h.CK ⟨a1, a2, a3, a4⟩ rfl rfl rfl rfl
    rw [b2i_f] at hc
    simp only [c0, c1, c2, c3, o3b, w4b] at hc
    obtain ⟨μ1, I1, I2, e1, e2, h2, k1, k2, hC1⟩ := bothQ (r2 := fun μ' I' => cl E lo d 275 [.ref (lo + 146), .int (J (I b (i + 1))), .int (J (I b (i + 2))), .int (J (I b (i + 3))), .int (J (I b (i + 4))), .int (J 0)] (mj μ' I')) h hc (fun μ' I' f e hM => by
      have q := q_share (E := E) (lo := lo) (d := d) (I := I') (M := rws I' (lo + 146)) (x := I b (i + 1)) (y := I b (i + 2)) (z := I b (i + 3)) (h := I b (i + 4)) (b := false) (T := rws I (lo + 74)) (by omega) hM (by omega) (h.tS e) (h.tL e) (h.tR e) ⟨a1, a2, a3, a4⟩
      rw [show sB I' (lo + 146) 26 (rws I' (lo + 146)) = I' from sB_id, b2i_f] at q
      have n0 : rws I' (lo + 146) 1 = I (lo + 147) := e
      simp only [n0, o3, w4] at q
      exact q)
    refine ⟨μ1, I2, ?_, h2⟩
    have hk1 := k1.trans hkb
    have kO := h.1.o.1
    have kM := hC1.M146.1
    simp (disch := omega) only [b312_1646, b312_1675, b312_1679, b312_1680, b312_1683, b312_1712, b312_1716, b312_1717, b312_1720, b312_1723, rdA_k hkb, rdA_k hk1, gO_k kO, gO_k kM, e1, k2, e2, eq_self, lgs, cz, Jl0, Jl1, Jl2, Jl3, Jl4, Jl5, Jl6, Jl7, Jl8, Jl9, Jl10, Jl11, Jl12, Jl13, Jl14, Jl15, Jl16, Jl17, Jl18, Jl19, Jl20, Jl22, Jl24, Jl28, Jl30, Jl31, Jl32, Jl35, Jl36, Jl37, Jl38, Jl39, Jl40, Jl48, Jl57, Jl59, Jl60, Jl61, Jl63, Jl64, Jl68, Jl69, Jl96, Jl97, Jl98, Jl99, Jl100, Jl122, Jl149, Jl150, Jl165, Jl255, Jl511, Jl512, Jl600, Jl610, Jl940, Jl968, Jl999, Jl1134, Jl1152, Jl2048, Jl4608, Jl9999, Jl99999, Jl100000, Jl147456, Jl12345, Jl1103515245, Jl100000000, Jlm1, Jlm2, J_add, J_sub, J_mul, J_lt, J_le, J_eq, J_ite, J_cl, ri_j, wi_j, b2i_z, b2i_o, b2i_zo, Int.cast_ofNat_Int, Int.natCast_zero, Int.natCast_one, if_true, if_false, ite_self, Int.le_refl, J_bit, J_or, J_neg, J_oN, Int.reduceEq, Int.reduceLT, Int.reduceLE, Int.reduceNeg, Int.reduceAdd, Int.reduceSub, Int.reduceMul, Int.reduceToNat, J_shl, J_shr, V_ite, true_or, or_true, nz_j, J_div, J_rem, Option.bind_some, Option.toList_some, Option.toList_none, List.cons_append, List.nil_append, Jl21, Jl23, Jl25, Jl74, Jl83, Jl288, Jl324, Jl1800, Jlm8]
  · have cz : (J (I b (i + 5)) = J 0) = False := by rw [cz0]; exact eq_false cc
    have hc := c_share (E := E) (lo := lo) (d := d) (x := I b (i + 1)) (y := I b (i + 2)) (z := I b (i + 3)) (h := I b (i + 4)) (b := true) (by omega) h.CK ⟨a1, a2, a3, a4⟩ rfl rfl rfl rfl
    rw [b2i_t] at hc
    simp only [c0, c1, c2, c3, o3b, w4b] at hc
    obtain ⟨μ1, I1, I2, e1, e2, h2, k1, k2, hC1⟩ := bothQ (r2 := fun μ' I' => cl E lo d 275 [.ref (lo + 146), .int (J (I b (i + 1))), .int (J (I b (i + 2))), .int (J (I b (i + 3))), .int (J (I b (i + 4))), .int (J 1)] (mj μ' I')) h hc (fun μ' I' f e hM => by
      have q := q_share (E := E) (lo := lo) (d := d) (I := I') (M := rws I' (lo + 146)) (x := I b (i + 1)) (y := I b (i + 2)) (z := I b (i + 3)) (h := I b (i + 4)) (b := true) (T := rws I (lo + 74)) (by omega) hM (by omega) (h.tS e) (h.tL e) (h.tR e) ⟨a1, a2, a3, a4⟩
      rw [show sB I' (lo + 146) 26 (rws I' (lo + 146)) = I' from sB_id, b2i_t] at q
      have n0 : rws I' (lo + 146) 1 = I (lo + 147) := e
      simp only [n0, o3, w4] at q
      exact q)
    refine ⟨μ1, I2, ?_, h2⟩
    have hk1 := k1.trans hkb
    have kO := h.1.o.1
    have kM := hC1.M146.1
    simp (disch := omega) only [b312_1646, b312_1675, b312_1679, b312_1680, b312_1683, b312_1712, b312_1716, b312_1717, b312_1720, b312_1723, rdA_k hkb, rdA_k hk1, gO_k kO, gO_k kM, e1, k2, e2, eq_self, lgs, cz, Jl0, Jl1, Jl2, Jl3, Jl4, Jl5, Jl6, Jl7, Jl8, Jl9, Jl10, Jl11, Jl12, Jl13, Jl14, Jl15, Jl16, Jl17, Jl18, Jl19, Jl20, Jl22, Jl24, Jl28, Jl30, Jl31, Jl32, Jl35, Jl36, Jl37, Jl38, Jl39, Jl40, Jl48, Jl57, Jl59, Jl60, Jl61, Jl63, Jl64, Jl68, Jl69, Jl96, Jl97, Jl98, Jl99, Jl100, Jl122, Jl149, Jl150, Jl165, Jl255, Jl511, Jl512, Jl600, Jl610, Jl940, Jl968, Jl999, Jl1134, Jl1152, Jl2048, Jl4608, Jl9999, Jl99999, Jl100000, Jl147456, Jl12345, Jl1103515245, Jl100000000, Jlm1, Jlm2, J_add, J_sub, J_mul, J_lt, J_le, J_eq, J_ite, J_cl, ri_j, wi_j, b2i_z, b2i_o, b2i_zo, Int.cast_ofNat_Int, Int.natCast_zero, Int.natCast_one, if_true, if_false, ite_self, Int.le_refl, J_bit, J_or, J_neg, J_oN, Int.reduceEq, Int.reduceLT, Int.reduceLE, Int.reduceNeg, Int.reduceAdd, Int.reduceSub, Int.reduceMul, Int.reduceToNat, J_shl, J_shr, V_ite, true_or, or_true, nz_j, J_div, J_rem, Option.bind_some, Option.toList_some, Option.toList_none, List.cons_append, List.nil_append, Jl21, Jl23, Jl25, Jl74, Jl83, Jl288, Jl324, Jl1800, Jlm8]
theorem op_trip (hd : 20 ≤ d) (h : INV E lo b L μ I) (hi : 0 ≤ i ∧ i + 7 ≤ (L : Int)) : STP E lo b L d i (ex PG E lo d 312 1725 [some (.ref b), some (.ref lo), some (.ref ((lo + 146))), some (.int (J (i)))] [] (mj μ I)) := by
  have hl2 := h.2.2.1.2.2.1
  have hkb := h.2.2.1.2.1
  have a1 := h.b32 (j := i + 1) (by omega)
  have a2 := h.b32 (j := i + 2) (by omega)
  have c0 := (h.cnt (s := 0) (by omega)).1
  have c1 := (h.cnt (s := 1) (by omega)).1
  have c2 := (h.cnt (s := 2) (by omega)).1
  have c3 := (h.cnt (s := 3) (by omega)).1
  have hc := c_trip (E := E) (lo := lo) (d := d) (x := I b (i + 1)) (y := I b (i + 2)) (by omega) h.1 h.TOK ⟨a1, a2⟩ rfl
  simp only [c0, c1, c2, c3, o3b, w4b] at hc
  obtain ⟨μ1, I1, I2, e1, e2, h2, k1, k2, hC1⟩ := bothQ (r2 := fun μ' I' => cl E lo d 277 [.ref (lo + 146), .int (J (I b (i + 1))), .int (J (I b (i + 2)))] (mj μ' I')) h hc (fun μ' I' f e hM => by
    have q := q_trip (E := E) (lo := lo) (d := d) (I := I') (M := rws I' (lo + 146)) (x := I b (i + 1)) (y := I b (i + 2)) (by omega) hM (by omega) (h.tS e) ⟨a1, a2⟩
    rw [show sB I' (lo + 146) 26 (rws I' (lo + 146)) = I' from sB_id] at q
    have n0 : rws I' (lo + 146) 1 = I (lo + 147) := e
    simp only [n0, o3, w4] at q
    exact q)
  refine ⟨μ1, I2, ?_, h2⟩
  have hk1 := k1.trans hkb
  have kO := h.1.o.1
  have kM := hC1.M146.1
  simp (disch := omega) only [b312_1725, b312_1739, b312_1753, b312_1756, rdA_k hkb, rdA_k hk1, gO_k kO, gO_k kM, e1, k2, e2, eq_self, lgs, Jl0, Jl1, Jl2, Jl3, Jl4, Jl5, Jl6, Jl7, Jl8, Jl9, Jl10, Jl11, Jl12, Jl13, Jl14, Jl15, Jl16, Jl17, Jl18, Jl19, Jl20, Jl22, Jl24, Jl28, Jl30, Jl31, Jl32, Jl35, Jl36, Jl37, Jl38, Jl39, Jl40, Jl48, Jl57, Jl59, Jl60, Jl61, Jl63, Jl64, Jl68, Jl69, Jl96, Jl97, Jl98, Jl99, Jl100, Jl122, Jl149, Jl150, Jl165, Jl255, Jl511, Jl512, Jl600, Jl610, Jl940, Jl968, Jl999, Jl1134, Jl1152, Jl2048, Jl4608, Jl9999, Jl99999, Jl100000, Jl147456, Jl12345, Jl1103515245, Jl100000000, Jlm1, Jlm2, J_add, J_sub, J_mul, J_lt, J_le, J_eq, J_ite, J_cl, ri_j, wi_j, b2i_z, b2i_o, b2i_zo, Int.cast_ofNat_Int, Int.natCast_zero, Int.natCast_one, if_true, if_false, ite_self, Int.le_refl, J_bit, J_or, J_neg, J_oN, Int.reduceEq, Int.reduceLT, Int.reduceLE, Int.reduceNeg, Int.reduceAdd, Int.reduceSub, Int.reduceMul, Int.reduceToNat, J_shl, J_shr, V_ite, true_or, or_true, nz_j, J_div, J_rem, Option.bind_some, Option.toList_some, Option.toList_none, List.cons_append, List.nil_append, Jl21, Jl23, Jl25, Jl74, Jl83, Jl288, Jl324, Jl1800, Jlm8]
end LAW
