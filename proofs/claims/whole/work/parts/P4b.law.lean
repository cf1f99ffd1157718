/-! THE LAW: a question to both (by program) -/
section LAW
variable {E : (Nat → Value) × (Nat → Nat)} {lo b L d : Nat} {μ : rM} {I : Nat → Int → Int} {i : Int}
theorem op_seven (hd : 20 ≤ d) (h : INV E lo b L μ I) (hi : 0 ≤ i ∧ i + 7 ≤ (L : Int)) : STP E lo b L d i (ex PG E lo d 312 703 [some (.ref b), some (.ref lo), some (.ref ((lo + 146))), some (.int (J (i)))] [] (mj μ I)) := by
  have hl2 := h.2.2.1.2.2.1
  have hkb := h.2.2.1.2.1
  have a1 := h.b32 (j := i + 1) (by omega)
  have a2 := h.b32 (j := i + 2) (by omega)
  have a3 := h.b32 (j := i + 3) (by omega)
  have a4 := h.b32 (j := i + 4) (by omega)
  have c0 := (h.cnt (s := 0) (by omega)).1
  have c1 := (h.cnt (s := 1) (by omega)).1
  have c2 := (h.cnt (s := 2) (by omega)).1
  have c3 := (h.cnt (s := 3) (by omega)).1
  have hc := c_seven (E := E) (lo := lo) (d := d) (x := I b (i + 1)) (y := I b (i + 2)) (z := I b (i + 3)) (w := I b (i + 4)) (by omega) h.CK ⟨a1, a2, a3, a4⟩ rfl rfl rfl rfl
  simp only [c0, c1, c2, c3, o3b, w4b] at hc
  obtain ⟨μ1, I1, I2, e1, e2, h2, k1, k2, hC1⟩ := bothQ (r2 := fun μ' I' => cl E lo d 241 [.ref (lo + 146), .int (J (I b (i + 1))), .int (J (I b (i + 2))), .int (J (I b (i + 3))), .int (J (I b (i + 4)))] (mj μ' I')) h hc (fun μ' I' f e hM => by
    have q := q_seven (E := E) (lo := lo) (d := d) (I := I') (M := rws I' (lo + 146)) (x := I b (i + 1)) (y := I b (i + 2)) (z := I b (i + 3)) (w := I b (i + 4)) (T := rws I (lo + 74)) (by omega) hM (by omega) (h.tS e) (h.tL e) (h.tR e) ⟨a1, a2, a3, a4⟩
    rw [show sB I' (lo + 146) 26 (rws I' (lo + 146)) = I' from sB_id] at q
    have n0 : rws I' (lo + 146) 1 = I (lo + 147) := e
    simp only [n0, o3, w4] at q
    exact q)
  refine ⟨μ1, I2, ?_, h2⟩
  have hk1 := k1.trans hkb
  have kO := h.1.o.1
  have kM := hC1.M146.1
  simp (disch := omega) only [b312_703, b312_727, b312_751, b312_754, rdA_k hkb, rdA_k hk1, gO_k kO, gO_k kM, e1, k2, e2, eq_self, lgs, Jl0, Jl1, Jl2, Jl3, Jl4, Jl5, Jl6, Jl7, Jl8, Jl9, Jl10, Jl11, Jl12, Jl13, Jl14, Jl15, Jl16, Jl17, Jl18, Jl19, Jl20, Jl22, Jl24, Jl28, Jl30, Jl31, Jl32, Jl35, Jl36, Jl37, Jl38, Jl39, Jl40, Jl48, Jl57, Jl59, Jl60, Jl61, Jl63, Jl64, Jl68, Jl69, Jl96, Jl97, Jl98, Jl99, Jl100, Jl122, Jl149, Jl150, Jl165, Jl255, Jl511, Jl512, Jl600, Jl610, Jl940, Jl968, Jl999, Jl1134, Jl1152, Jl2048, Jl4608, Jl9999, Jl99999, Jl100000, Jl147456, Jl12345, Jl1103515245, Jl100000000, Jlm1, Jlm2, J_add, J_sub, J_mul, J_lt, J_le, J_eq, J_ite, J_cl, ri_j, wi_j, b2i_z, b2i_o, b2i_zo, Int.cast_ofNat_Int, Int.natCast_zero, Int.natCast_one, if_true, if_false, ite_self, Int.le_refl, J_bit, J_or, J_neg, J_oN, Int.reduceEq, Int.reduceLT, Int.reduceLE, Int.reduceNeg, Int.reduceAdd, Int.reduceSub, Int.reduceMul, Int.reduceToNat, J_shl, J_shr, V_ite, true_or, or_true, nz_j, J_div, J_rem, Option.bind_some, Option.toList_some, Option.toList_none, List.cons_append, List.nil_append, Jl21, Jl23, Jl25, Jl74, Jl83, Jl288, Jl324, Jl1800, Jlm8]
theorem op_refuge (hd : 20 ≤ d) (h : INV E lo b L μ I) (hi : 0 ≤ i ∧ i + 7 ≤ (L : Int)) : STP E lo b L d i (ex PG E lo d 312 756 [some (.ref b), some (.ref lo), some (.ref ((lo + 146))), some (.int (J (i)))] [] (mj μ I)) := by
  have hl2 := h.2.2.1.2.2.1
  have hkb := h.2.2.1.2.1
  have a1 := h.b32 (j := i + 1) (by omega)
  have a2 := h.b32 (j := i + 2) (by omega)
  have a3 := h.b32 (j := i + 3) (by omega)
  have a4 := h.b32 (j := i + 4) (by omega)
  have a5 := h.b32 (j := i + 5) (by omega)
  have c0 := (h.cnt (s := 0) (by omega)).1
  have c1 := (h.cnt (s := 1) (by omega)).1
  have c2 := (h.cnt (s := 2) (by omega)).1
  have c3 := (h.cnt (s := 3) (by omega)).1
  have cz0 := J_eq (a := I b (i + 5)) (b := 0) (by unfold i32 at a5; omega)
  by_cases cc : I b (i + 5) = 0
  · have cz : (J (I b (i + 5)) = J 0) = True := by rw [cz0]; exact eq_true cc
    have hc := c_refuge (E := E) (lo := lo) (d := d) (x := I b (i + 1)) (y := I b (i + 2)) (z := I b (i + 3)) (k := I b (i + 4)) (bb := false) (by omega) h.CK ⟨a1, a2, a3, a4⟩ rfl rfl rfl rfl
    rw [b2i_f] at hc
    simp only [c0, c1, c2, c3, o3b, w4b] at hc
    obtain ⟨μ1, I1, I2, e1, e2, h2, k1, k2, hC1⟩ := bothQ (r2 := fun μ' I' => cl E lo d 242 [.ref (lo + 146), .int (J (I b (i + 1))), .int (J (I b (i + 2))), .int (J (I b (i + 3))), .int (J (I b (i + 4))), .int (J 0)] (mj μ' I')) h hc (fun μ' I' f e hM => by
      have q := q_refuge (E := E) (lo := lo) (d := d) (I := I') (M := rws I' (lo + 146)) (x := I b (i + 1)) (y := I b (i + 2)) (z := I b (i + 3)) (k := I b (i + 4)) (b := false) (T := rws I (lo + 74)) (by omega) hM (by omega) (h.tS e) (h.tL e) (h.tR e) ⟨a1, a2, a3, a4⟩
      rw [show sB I' (lo + 146) 26 (rws I' (lo + 146)) = I' from sB_id, b2i_f] at q
      have n0 : rws I' (lo + 146) 1 = I (lo + 147) := e
      simp only [n0, o3, w4] at q
      exact q)
    refine ⟨μ1, I2, ?_, h2⟩
    have hk1 := k1.trans hkb
    have kO := h.1.o.1
    have kM := hC1.M146.1
    simp (disch := omega) only [b312_756, b312_785, b312_789, b312_790, b312_793, b312_822, b312_826, b312_827, b312_830, b312_833, rdA_k hkb, rdA_k hk1, gO_k kO, gO_k kM, e1, k2, e2, eq_self, lgs, cz, Jl0, Jl1, Jl2, Jl3, Jl4, Jl5, Jl6, Jl7, Jl8, Jl9, Jl10, Jl11, Jl12, Jl13, Jl14, Jl15, Jl16, Jl17, Jl18, Jl19, Jl20, Jl22, Jl24, Jl28, Jl30, Jl31, Jl32, Jl35, Jl36, Jl37, Jl38, Jl39, Jl40, Jl48, Jl57, Jl59, Jl60, Jl61, Jl63, Jl64, Jl68, Jl69, Jl96, Jl97, Jl98, Jl99, Jl100, Jl122, Jl149, Jl150, Jl165, Jl255, Jl511, Jl512, Jl600, Jl610, Jl940, Jl968, Jl999, Jl1134, Jl1152, Jl2048, Jl4608, Jl9999, Jl99999, Jl100000, Jl147456, Jl12345, Jl1103515245, Jl100000000, Jlm1, Jlm2, J_add, J_sub, J_mul, J_lt, J_le, J_eq, J_ite, J_cl, ri_j, wi_j, b2i_z, b2i_o, b2i_zo, Int.cast_ofNat_Int, Int.natCast_zero, Int.natCast_one, if_true, if_false, ite_self, Int.le_refl, J_bit, J_or, J_neg, J_oN, Int.reduceEq, Int.reduceLT, Int.reduceLE, Int.reduceNeg, Int.reduceAdd, Int.reduceSub, Int.reduceMul, Int.reduceToNat, J_shl, J_shr, V_ite, true_or, or_true, nz_j, J_div, J_rem, Option.bind_some, Option.toList_some, Option.toList_none, List.cons_append, List.nil_append, Jl21, Jl23, Jl25, Jl74, Jl83, Jl288, Jl324, Jl1800, Jlm8]
  · have cz : (J (I b (i + 5)) = J 0) = False := by rw [cz0]; exact eq_false cc
    have hc := c_refuge (E := E) (lo := lo) (d := d) (x := I b (i + 1)) (y := I b (i + 2)) (z := I b (i + 3)) (k := I b (i + 4)) (bb := true) (by omega) h.CK ⟨a1, a2, a3, a4⟩ rfl rfl rfl rfl
    rw [b2i_t] at hc
    simp only [c0, c1, c2, c3, o3b, w4b] at hc
    obtain ⟨μ1, I1, I2, e1, e2, h2, k1, k2, hC1⟩ := bothQ (r2 := fun μ' I' => cl E lo d 242 [.ref (lo + 146), .int (J (I b (i + 1))), .int (J (I b (i + 2))), .int (J (I b (i + 3))), .int (J (I b (i + 4))), .int (J 1)] (mj μ' I')) h hc (fun μ' I' f e hM => by
      have q := q_refuge (E := E) (lo := lo) (d := d) (I := I') (M := rws I' (lo + 146)) (x := I b (i + 1)) (y := I b (i + 2)) (z := I b (i + 3)) (k := I b (i + 4)) (b := true) (T := rws I (lo + 74)) (by omega) hM (by omega) (h.tS e) (h.tL e) (h.tR e) ⟨a1, a2, a3, a4⟩
      rw [show sB I' (lo + 146) 26 (rws I' (lo + 146)) = I' from sB_id, b2i_t] at q
      have n0 : rws I' (lo + 146) 1 = I (lo + 147) := e
      simp only [n0, o3, w4] at q
      exact q)
    refine ⟨μ1, I2, ?_, h2⟩
    have hk1 := k1.trans hkb
    have kO := h.1.o.1
    have kM := hC1.M146.1
    simp (disch := omega) only [b312_756, b312_785, b312_789, b312_790, b312_793, b312_822, b312_826, b312_827, b312_830, b312_833, rdA_k hkb, rdA_k hk1, gO_k kO, gO_k kM, e1, k2, e2, eq_self, lgs, cz, Jl0, Jl1, Jl2, Jl3, Jl4, Jl5, Jl6, Jl7, Jl8, Jl9, Jl10, Jl11, Jl12, Jl13, Jl14, Jl15, Jl16, Jl17, Jl18, Jl19, Jl20, Jl22, Jl24, Jl28, Jl30, Jl31, Jl32, Jl35, Jl36, Jl37, Jl38, Jl39, Jl40, Jl48, Jl57, Jl59, Jl60, Jl61, Jl63, Jl64, Jl68, Jl69, Jl96, Jl97, Jl98, Jl99, Jl100, Jl122, Jl149, Jl150, Jl165, Jl255, Jl511, Jl512, Jl600, Jl610, Jl940, Jl968, Jl999, Jl1134, Jl1152, Jl2048, Jl4608, Jl9999, Jl99999, Jl100000, Jl147456, Jl12345, Jl1103515245, Jl100000000, Jlm1, Jlm2, J_add, J_sub, J_mul, J_lt, J_le, J_eq, J_ite, J_cl, ri_j, wi_j, b2i_z, b2i_o, b2i_zo, Int.cast_ofNat_Int, Int.natCast_zero, Int.natCast_one, if_true, if_false, ite_self, Int.le_refl, J_bit, J_or, J_neg, J_oN, Int.reduceEq, Int.reduceLT, Int.reduceLE, Int.reduceNeg, Int.reduceAdd, Int.reduceSub, Int.reduceMul, Int.reduceToNat, J_shl, J_shr, V_ite, true_or, or_true, nz_j, J_div, J_rem, Option.bind_some, Option.toList_some, Option.toList_none, List.cons_append, List.nil_append, Jl21, Jl23, Jl25, Jl74, Jl83, Jl288, Jl324, Jl1800, Jlm8]
theorem op_sold (hd : 20 ≤ d) (h : INV E lo b L μ I) (hi : 0 ≤ i ∧ i + 7 ≤ (L : Int)) : STP E lo b L d i (ex PG E lo d 312 835 [some (.ref b), some (.ref lo), some (.ref ((lo + 146))), some (.int (J (i)))] [] (mj μ I)) := by
  have hl2 := h.2.2.1.2.2.1
  have hkb := h.2.2.1.2.1
  have a1 := h.b32 (j := i + 1) (by omega)
  have a2 := h.b32 (j := i + 2) (by omega)
  have a3 := h.b32 (j := i + 3) (by omega)
  have c0 := (h.cnt (s := 0) (by omega)).1
  have c1 := (h.cnt (s := 1) (by omega)).1
  have c2 := (h.cnt (s := 2) (by omega)).1
  have c3 := (h.cnt (s := 3) (by omega)).1
  have hc := c_sold (E := E) (lo := lo) (d := d) (x := I b (i + 1)) (y := I b (i + 2)) (w := I b (i + 3)) (by omega) h.CK ⟨a1, a2, a3⟩ rfl rfl
  simp only [c0, c1, c2, c3, o3b, w4b] at hc
  obtain ⟨μ1, I1, I2, e1, e2, h2, k1, k2, hC1⟩ := bothQ (r2 := fun μ' I' => cl E lo d 247 [.ref (lo + 146), .int (J (I b (i + 1))), .int (J (I b (i + 2))), .int (J (I b (i + 3)))] (mj μ' I')) h hc (fun μ' I' f e hM => by
    have q := q_sold (E := E) (lo := lo) (d := d) (I := I') (M := rws I' (lo + 146)) (x := I b (i + 1)) (y := I b (i + 2)) (w := I b (i + 3)) (by omega) hM (by omega) (h.tS e) (h.tL e) ⟨a1, a2, a3⟩
    rw [show sB I' (lo + 146) 26 (rws I' (lo + 146)) = I' from sB_id] at q
    have n0 : rws I' (lo + 146) 1 = I (lo + 147) := e
    simp only [n0, o3, w4] at q
    exact q)
  refine ⟨μ1, I2, ?_, h2⟩
  have hk1 := k1.trans hkb
  have kO := h.1.o.1
  have kM := hC1.M146.1
  simp (disch := omega) only [b312_835, b312_854, b312_873, b312_876, rdA_k hkb, rdA_k hk1, gO_k kO, gO_k kM, e1, k2, e2, eq_self, lgs, Jl0, Jl1, Jl2, Jl3, Jl4, Jl5, Jl6, Jl7, Jl8, Jl9, Jl10, Jl11, Jl12, Jl13, Jl14, Jl15, Jl16, Jl17, Jl18, Jl19, Jl20, Jl22, Jl24, Jl28, Jl30, Jl31, Jl32, Jl35, Jl36, Jl37, Jl38, Jl39, Jl40, Jl48, Jl57, Jl59, Jl60, Jl61, Jl63, Jl64, Jl68, Jl69, Jl96, Jl97, Jl98, Jl99, Jl100, Jl122, Jl149, Jl150, Jl165, Jl255, Jl511, Jl512, Jl600, Jl610, Jl940, Jl968, Jl999, Jl1134, Jl1152, Jl2048, Jl4608, Jl9999, Jl99999, Jl100000, Jl147456, Jl12345, Jl1103515245, Jl100000000, Jlm1, Jlm2, J_add, J_sub, J_mul, J_lt, J_le, J_eq, J_ite, J_cl, ri_j, wi_j, b2i_z, b2i_o, b2i_zo, Int.cast_ofNat_Int, Int.natCast_zero, Int.natCast_one, if_true, if_false, ite_self, Int.le_refl, J_bit, J_or, J_neg, J_oN, Int.reduceEq, Int.reduceLT, Int.reduceLE, Int.reduceNeg, Int.reduceAdd, Int.reduceSub, Int.reduceMul, Int.reduceToNat, J_shl, J_shr, V_ite, true_or, or_true, nz_j, J_div, J_rem, Option.bind_some, Option.toList_some, Option.toList_none, List.cons_append, List.nil_append, Jl21, Jl23, Jl25, Jl74, Jl83, Jl288, Jl324, Jl1800, Jlm8]
theorem op_quick (hd : 20 ≤ d) (h : INV E lo b L μ I) (hi : 0 ≤ i ∧ i + 7 ≤ (L : Int)) : STP E lo b L d i (ex PG E lo d 312 878 [some (.ref b), some (.ref lo), some (.ref ((lo + 146))), some (.int (J (i)))] [] (mj μ I)) := by
  have hl2 := h.2.2.1.2.2.1
  have hkb := h.2.2.1.2.1
  have a1 := h.b32 (j := i + 1) (by omega)
  have a2 := h.b32 (j := i + 2) (by omega)
  have a3 := h.b32 (j := i + 3) (by omega)
  have c0 := (h.cnt (s := 0) (by omega)).1
  have c1 := (h.cnt (s := 1) (by omega)).1
  have c2 := (h.cnt (s := 2) (by omega)).1
  have c3 := (h.cnt (s := 3) (by omega)).1
  have hc := c_quick (E := E) (lo := lo) (d := d) (x := I b (i + 1)) (y := I b (i + 2)) (z := I b (i + 3)) (by omega) h.1 h.TOK ⟨a1, a2, a3⟩ rfl
  simp only [c0, c1, c2, c3, o3b, w4b] at hc
  obtain ⟨μ1, I1, I2, e1, e2, h2, k1, k2, hC1⟩ := bothQ (r2 := fun μ' I' => cl E lo d 248 [.ref (lo + 146), .int (J (I b (i + 1))), .int (J (I b (i + 2))), .int (J (I b (i + 3)))] (mj μ' I')) h hc (fun μ' I' f e hM => by
    have q := q_quick (E := E) (lo := lo) (d := d) (I := I') (M := rws I' (lo + 146)) (x := I b (i + 1)) (y := I b (i + 2)) (z := I b (i + 3)) (by omega) hM (by omega) (h.tS e) ⟨a1, a2, a3⟩
    rw [show sB I' (lo + 146) 26 (rws I' (lo + 146)) = I' from sB_id] at q
    have n0 : rws I' (lo + 146) 1 = I (lo + 147) := e
    simp only [n0, o3, w4] at q
    exact q)
  refine ⟨μ1, I2, ?_, h2⟩
  have hk1 := k1.trans hkb
  have kO := h.1.o.1
  have kM := hC1.M146.1
  simp (disch := omega) only [b312_878, b312_897, b312_916, b312_919, rdA_k hkb, rdA_k hk1, gO_k kO, gO_k kM, e1, k2, e2, eq_self, lgs, Jl0, Jl1, Jl2, Jl3, Jl4, Jl5, Jl6, Jl7, Jl8, Jl9, Jl10, Jl11, Jl12, Jl13, Jl14, Jl15, Jl16, Jl17, Jl18, Jl19, Jl20, Jl22, Jl24, Jl28, Jl30, Jl31, Jl32, Jl35, Jl36, Jl37, Jl38, Jl39, Jl40, Jl48, Jl57, Jl59, Jl60, Jl61, Jl63, Jl64, Jl68, Jl69, Jl96, Jl97, Jl98, Jl99, Jl100, Jl122, Jl149, Jl150, Jl165, Jl255, Jl511, Jl512, Jl600, Jl610, Jl940, Jl968, Jl999, Jl1134, Jl1152, Jl2048, Jl4608, Jl9999, Jl99999, Jl100000, Jl147456, Jl12345, Jl1103515245, Jl100000000, Jlm1, Jlm2, J_add, J_sub, J_mul, J_lt, J_le, J_eq, J_ite, J_cl, ri_j, wi_j, b2i_z, b2i_o, b2i_zo, Int.cast_ofNat_Int, Int.natCast_zero, Int.natCast_one, if_true, if_false, ite_self, Int.le_refl, J_bit, J_or, J_neg, J_oN, Int.reduceEq, Int.reduceLT, Int.reduceLE, Int.reduceNeg, Int.reduceAdd, Int.reduceSub, Int.reduceMul, Int.reduceToNat, J_shl, J_shr, V_ite, true_or, or_true, nz_j, J_div, J_rem, Option.bind_some, Option.toList_some, Option.toList_none, List.cons_append, List.nil_append, Jl21, Jl23, Jl25, Jl74, Jl83, Jl288, Jl324, Jl1800, Jlm8]
theorem op_told (hd : 20 ≤ d) (h : INV E lo b L μ I) (hi : 0 ≤ i ∧ i + 7 ≤ (L : Int)) : STP E lo b L d i (ex PG E lo d 312 921 [some (.ref b), some (.ref lo), some (.ref ((lo + 146))), some (.int (J (i)))] [] (mj μ I)) := by
  have hl2 := h.2.2.1.2.2.1
  have hkb := h.2.2.1.2.1
  have a1 := h.b32 (j := i + 1) (by omega)
  have a2 := h.b32 (j := i + 2) (by omega)
  have c0 := (h.cnt (s := 0) (by omega)).1
  have c1 := (h.cnt (s := 1) (by omega)).1
  have c2 := (h.cnt (s := 2) (by omega)).1
  have c3 := (h.cnt (s := 3) (by omega)).1
  have hc := c_told (E := E) (lo := lo) (d := d) (x := I b (i + 1)) (k := I b (i + 2)) (by omega) h.1 h.TOK ⟨a1, a2⟩
  simp only [c0, c1, c2, c3, o3b, w4b] at hc
  obtain ⟨μ1, I1, I2, e1, e2, h2, k1, k2, hC1⟩ := bothQ (r2 := fun μ' I' => cl E lo d 249 [.ref (lo + 146), .int (J (I b (i + 1))), .int (J (I b (i + 2)))] (mj μ' I')) h ⟨μ, I, hc, FQ.r⟩ (fun μ' I' f e hM => by
    have q := q_told (E := E) (lo := lo) (d := d) (I := I') (M := rws I' (lo + 146)) (x := I b (i + 1)) (k := I b (i + 2)) (by omega) hM (by omega) (h.tC e) ⟨a1, a2⟩
    rw [show sB I' (lo + 146) 26 (rws I' (lo + 146)) = I' from sB_id] at q
    have n0 : rws I' (lo + 146) 1 = I (lo + 147) := e
    simp only [n0, o3, w4] at q
    exact q)
  refine ⟨μ1, I2, ?_, h2⟩
  have hk1 := k1.trans hkb
  have kO := h.1.o.1
  have kM := hC1.M146.1
  simp (disch := omega) only [b312_921, b312_935, b312_949, b312_952, rdA_k hkb, rdA_k hk1, gO_k kO, gO_k kM, e1, k2, e2, eq_self, lgs, Jl0, Jl1, Jl2, Jl3, Jl4, Jl5, Jl6, Jl7, Jl8, Jl9, Jl10, Jl11, Jl12, Jl13, Jl14, Jl15, Jl16, Jl17, Jl18, Jl19, Jl20, Jl22, Jl24, Jl28, Jl30, Jl31, Jl32, Jl35, Jl36, Jl37, Jl38, Jl39, Jl40, Jl48, Jl57, Jl59, Jl60, Jl61, Jl63, Jl64, Jl68, Jl69, Jl96, Jl97, Jl98, Jl99, Jl100, Jl122, Jl149, Jl150, Jl165, Jl255, Jl511, Jl512, Jl600, Jl610, Jl940, Jl968, Jl999, Jl1134, Jl1152, Jl2048, Jl4608, Jl9999, Jl99999, Jl100000, Jl147456, Jl12345, Jl1103515245, Jl100000000, Jlm1, Jlm2, J_add, J_sub, J_mul, J_lt, J_le, J_eq, J_ite, J_cl, ri_j, wi_j, b2i_z, b2i_o, b2i_zo, Int.cast_ofNat_Int, Int.natCast_zero, Int.natCast_one, if_true, if_false, ite_self, Int.le_refl, J_bit, J_or, J_neg, J_oN, Int.reduceEq, Int.reduceLT, Int.reduceLE, Int.reduceNeg, Int.reduceAdd, Int.reduceSub, Int.reduceMul, Int.reduceToNat, J_shl, J_shr, V_ite, true_or, or_true, nz_j, J_div, J_rem, Option.bind_some, Option.toList_some, Option.toList_none, List.cons_append, List.nil_append, Jl21, Jl23, Jl25, Jl74, Jl83, Jl288, Jl324, Jl1800, Jlm8]
theorem op_went (hd : 20 ≤ d) (h : INV E lo b L μ I) (hi : 0 ≤ i ∧ i + 7 ≤ (L : Int)) : STP E lo b L d i (ex PG E lo d 312 954 [some (.ref b), some (.ref lo), some (.ref ((lo + 146))), some (.int (J (i)))] [] (mj μ I)) := by
  have hl2 := h.2.2.1.2.2.1
  have hkb := h.2.2.1.2.1
  have a1 := h.b32 (j := i + 1) (by omega)
  have a2 := h.b32 (j := i + 2) (by omega)
  have a3 := h.b32 (j := i + 3) (by omega)
  have a4 := h.b32 (j := i + 4) (by omega)
  have a5 := h.b32 (j := i + 5) (by omega)
  have c0 := (h.cnt (s := 0) (by omega)).1
  have c1 := (h.cnt (s := 1) (by omega)).1
  have c2 := (h.cnt (s := 2) (by omega)).1
  have c3 := (h.cnt (s := 3) (by omega)).1
  have hc := c_went (E := E) (lo := lo) (d := d) (x := I b (i + 1)) (y := I b (i + 2)) (z := I b (i + 3)) (n := I b (i + 4)) (h := I b (i + 5)) (by omega) h.CK ⟨a1, a2, a3, a4, a5⟩ rfl rfl rfl
  simp only [c0, c1, c2, c3, o3b, w4b] at hc
  obtain ⟨μ1, I1, I2, e1, e2, h2, k1, k2, hC1⟩ := bothL (r2 := fun μ' I' => cl E lo d 257 [.ref (lo + 146), .int (J (I b (i + 1))), .int (J (I b (i + 2))), .int (J (I b (i + 3))), .int (J (I b (i + 4))), .int (J (I b (i + 5)))] (mj μ' I')) h hc (fun μ' I' f e hM => by
    have q := q_went (E := E) (lo := lo) (d := d) (I := I') (M := rws I' (lo + 146)) (x := I b (i + 1)) (y := I b (i + 2)) (z := I b (i + 3)) (n := I b (i + 4)) (h := I b (i + 5)) (by omega) hM (by omega) (h.tS e) (h.tL e) (h.tC e) ⟨a1, a2, a3, a4, a5⟩
    rw [show sB I' (lo + 146) 26 (rws I' (lo + 146)) = I' from sB_id] at q
    have n0 : rws I' (lo + 146) 1 = I (lo + 147) := e
    simp only [n0, o3, w4] at q
    exact q)
  refine ⟨μ1, I2, ?_, h2⟩
  have hk1 := k1.trans hkb
  have kO := h.1.o.1
  have kM := hC1.M146.1
  simp (disch := omega) only [b312_954, b312_983, b312_1012, b312_1016, rdA_k hkb, rdA_k hk1, gO_k kO, gO_k kM, e1, k2, e2, eq_self, lgs, Jl0, Jl1, Jl2, Jl3, Jl4, Jl5, Jl6, Jl7, Jl8, Jl9, Jl10, Jl11, Jl12, Jl13, Jl14, Jl15, Jl16, Jl17, Jl18, Jl19, Jl20, Jl22, Jl24, Jl28, Jl30, Jl31, Jl32, Jl35, Jl36, Jl37, Jl38, Jl39, Jl40, Jl48, Jl57, Jl59, Jl60, Jl61, Jl63, Jl64, Jl68, Jl69, Jl96, Jl97, Jl98, Jl99, Jl100, Jl122, Jl149, Jl150, Jl165, Jl255, Jl511, Jl512, Jl600, Jl610, Jl940, Jl968, Jl999, Jl1134, Jl1152, Jl2048, Jl4608, Jl9999, Jl99999, Jl100000, Jl147456, Jl12345, Jl1103515245, Jl100000000, Jlm1, Jlm2, J_add, J_sub, J_mul, J_lt, J_le, J_eq, J_ite, J_cl, ri_j, wi_j, b2i_z, b2i_o, b2i_zo, Int.cast_ofNat_Int, Int.natCast_zero, Int.natCast_one, if_true, if_false, ite_self, Int.le_refl, J_bit, J_or, J_neg, J_oN, Int.reduceEq, Int.reduceLT, Int.reduceLE, Int.reduceNeg, Int.reduceAdd, Int.reduceSub, Int.reduceMul, Int.reduceToNat, J_shl, J_shr, V_ite, true_or, or_true, nz_j, J_div, J_rem, Option.bind_some, Option.toList_some, Option.toList_none, List.cons_append, List.nil_append, Jl21, Jl23, Jl25, Jl74, Jl83, Jl288, Jl324, Jl1800, Jlm8]
theorem op_soonest (hd : 20 ≤ d) (h : INV E lo b L μ I) (hi : 0 ≤ i ∧ i + 7 ≤ (L : Int)) : STP E lo b L d i (ex PG E lo d 312 1018 [some (.ref b), some (.ref lo), some (.ref ((lo + 146))), some (.int (J (i)))] [] (mj μ I)) := by
  have hl2 := h.2.2.1.2.2.1
  have hkb := h.2.2.1.2.1
  have a1 := h.b32 (j := i + 1) (by omega)
  have a2 := h.b32 (j := i + 2) (by omega)
  have a3 := h.b32 (j := i + 3) (by omega)
  have a4 := h.b32 (j := i + 4) (by omega)
  have c0 := (h.cnt (s := 0) (by omega)).1
  have c1 := (h.cnt (s := 1) (by omega)).1
  have c2 := (h.cnt (s := 2) (by omega)).1
  have c3 := (h.cnt (s := 3) (by omega)).1
  have hc := c_soonest (E := E) (lo := lo) (d := d) (x := I b (i + 1)) (y := I b (i + 2)) (z := I b (i + 3)) (n := I b (i + 4)) (by omega) h.CK ⟨a1, a2, a3, a4⟩ rfl rfl rfl
  simp only [c0, c1, c2, c3, o3b, w4b] at hc
  obtain ⟨μ1, I1, I2, e1, e2, h2, k1, k2, hC1⟩ := bothQ (r2 := fun μ' I' => cl E lo d 258 [.ref (lo + 146), .int (J (I b (i + 1))), .int (J (I b (i + 2))), .int (J (I b (i + 3))), .int (J (I b (i + 4)))] (mj μ' I')) h hc (fun μ' I' f e hM => by
    have q := q_soonest (E := E) (lo := lo) (d := d) (I := I') (M := rws I' (lo + 146)) (x := I b (i + 1)) (y := I b (i + 2)) (z := I b (i + 3)) (n := I b (i + 4)) (by omega) hM (by omega) (h.tS e) (h.tL e) (h.tC e) ⟨a1, a2, a3, a4⟩
    rw [show sB I' (lo + 146) 26 (rws I' (lo + 146)) = I' from sB_id] at q
    have n0 : rws I' (lo + 146) 1 = I (lo + 147) := e
    simp only [n0, o3, w4] at q
    exact q)
  refine ⟨μ1, I2, ?_, h2⟩
  have hk1 := k1.trans hkb
  have kO := h.1.o.1
  have kM := hC1.M146.1
  simp (disch := omega) only [b312_1018, b312_1042, b312_1066, b312_1069, rdA_k hkb, rdA_k hk1, gO_k kO, gO_k kM, e1, k2, e2, eq_self, lgs, Jl0, Jl1, Jl2, Jl3, Jl4, Jl5, Jl6, Jl7, Jl8, Jl9, Jl10, Jl11, Jl12, Jl13, Jl14, Jl15, Jl16, Jl17, Jl18, Jl19, Jl20, Jl22, Jl24, Jl28, Jl30, Jl31, Jl32, Jl35, Jl36, Jl37, Jl38, Jl39, Jl40, Jl48, Jl57, Jl59, Jl60, Jl61, Jl63, Jl64, Jl68, Jl69, Jl96, Jl97, Jl98, Jl99, Jl100, Jl122, Jl149, Jl150, Jl165, Jl255, Jl511, Jl512, Jl600, Jl610, Jl940, Jl968, Jl999, Jl1134, Jl1152, Jl2048, Jl4608, Jl9999, Jl99999, Jl100000, Jl147456, Jl12345, Jl1103515245, Jl100000000, Jlm1, Jlm2, J_add, J_sub, J_mul, J_lt, J_le, J_eq, J_ite, J_cl, ri_j, wi_j, b2i_z, b2i_o, b2i_zo, Int.cast_ofNat_Int, Int.natCast_zero, Int.natCast_one, if_true, if_false, ite_self, Int.le_refl, J_bit, J_or, J_neg, J_oN, Int.reduceEq, Int.reduceLT, Int.reduceLE, Int.reduceNeg, Int.reduceAdd, Int.reduceSub, Int.reduceMul, Int.reduceToNat, J_shl, J_shr, V_ite, true_or, or_true, nz_j, J_div, J_rem, Option.bind_some, Option.toList_some, Option.toList_none, List.cons_append, List.nil_append, Jl21, Jl23, Jl25, Jl74, Jl83, Jl288, Jl324, Jl1800, Jlm8]
theorem op_cats (hd : 20 ≤ d) (h : INV E lo b L μ I) (hi : 0 ≤ i ∧ i + 7 ≤ (L : Int)) : STP E lo b L d i (ex PG E lo d 312 1071 [some (.ref b), some (.ref lo), some (.ref ((lo + 146))), some (.int (J (i)))] [] (mj μ I)) := by
  have hl2 := h.2.2.1.2.2.1
  have hkb := h.2.2.1.2.1
  have a1 := h.b32 (j := i + 1) (by omega)
  have a2 := h.b32 (j := i + 2) (by omega)
  have c0 := (h.cnt (s := 0) (by omega)).1
  have c1 := (h.cnt (s := 1) (by omega)).1
  have c2 := (h.cnt (s := 2) (by omega)).1
  have c3 := (h.cnt (s := 3) (by omega)).1
  have cz0 := J_eq (a := I b (i + 2)) (b := 0) (by unfold i32 at a2; omega)
  by_cases cc : I b (i + 2) = 0
  · have cz : (J (I b (i + 2)) = J 0) = True := by rw [cz0]; exact eq_true cc
    have hc := c_cats (E := E) (lo := lo) (d := d) (x := I b (i + 1)) (bb := false) (by omega) h.1 h.TOK a1 rfl
    rw [b2i_f] at hc
    simp only [c0, c1, c2, c3, o3b, w4b] at hc
    obtain ⟨μ1, I1, I2, e1, e2, h2, k1, k2, hC1⟩ := bothQ (r2 := fun μ' I' => cl E lo d 261 [.ref (lo + 146), .int (J (I b (i + 1))), .int (J 0)] (mj μ' I')) h ⟨μ, I, hc, FQ.r⟩ (fun μ' I' f e hM => by
      have q := q_cats (E := E) (lo := lo) (d := d) (I := I') (M := rws I' (lo + 146)) (x := I b (i + 1)) (b := false) (by omega) hM (by omega) (h.tS e) a1
      rw [show sB I' (lo + 146) 26 (rws I' (lo + 146)) = I' from sB_id, b2i_f] at q
      have n0 : rws I' (lo + 146) 1 = I (lo + 147) := e
      simp only [n0, o3, w4] at q
      exact q)
    refine ⟨μ1, I2, ?_, h2⟩
    have hk1 := k1.trans hkb
    have kO := h.1.o.1
    have kM := hC1.M146.1
    simp (disch := omega) only [b312_1071, b312_1085, b312_1089, b312_1090, b312_1093, b312_1107, b312_1111, b312_1112, b312_1115, b312_1118, rdA_k hkb, rdA_k hk1, gO_k kO, gO_k kM, e1, k2, e2, eq_self, lgs, cz, Jl0, Jl1, Jl2, Jl3, Jl4, Jl5, Jl6, Jl7, Jl8, Jl9, Jl10, Jl11, Jl12, Jl13, Jl14, Jl15, Jl16, Jl17, Jl18, Jl19, Jl20, Jl22, Jl24, Jl28, Jl30, Jl31, Jl32, Jl35, Jl36, Jl37, Jl38, Jl39, Jl40, Jl48, Jl57, Jl59, Jl60, Jl61, Jl63, Jl64, Jl68, Jl69, Jl96, Jl97, Jl98, Jl99, Jl100, Jl122, Jl149, Jl150, Jl165, Jl255, Jl511, Jl512, Jl600, Jl610, Jl940, Jl968, Jl999, Jl1134, Jl1152, Jl2048, Jl4608, Jl9999, Jl99999, Jl100000, Jl147456, Jl12345, Jl1103515245, Jl100000000, Jlm1, Jlm2, J_add, J_sub, J_mul, J_lt, J_le, J_eq, J_ite, J_cl, ri_j, wi_j, b2i_z, b2i_o, b2i_zo, Int.cast_ofNat_Int, Int.natCast_zero, Int.natCast_one, if_true, if_false, ite_self, Int.le_refl, J_bit, J_or, J_neg, J_oN, Int.reduceEq, Int.reduceLT, Int.reduceLE, Int.reduceNeg, Int.reduceAdd, Int.reduceSub, Int.reduceMul, Int.reduceToNat, J_shl, J_shr, V_ite, true_or, or_true, nz_j, J_div, J_rem, Option.bind_some, Option.toList_some, Option.toList_none, List.cons_append, List.nil_append, Jl21, Jl23, Jl25, Jl74, Jl83, Jl288, Jl324, Jl1800, Jlm8]
  · have cz : (J (I b (i + 2)) = J 0) = False := by rw [cz0]; exact eq_false cc
    have hc := c_cats (E := E) (lo := lo) (d := d) (x := I b (i + 1)) (bb := true) (by omega) h.1 h.TOK a1 rfl
    rw [b2i_t] at hc
    simp only [c0, c1, c2, c3, o3b, w4b] at hc
    obtain ⟨μ1, I1, I2, e1, e2, h2, k1, k2, hC1⟩ := bothQ (r2 := fun μ' I' => cl E lo d 261 [.ref (lo + 146), .int (J (I b (i + 1))), .int (J 1)] (mj μ' I')) h ⟨μ, I, hc, FQ.r⟩ (fun μ' I' f e hM => by
      have q := q_cats (E := E) (lo := lo) (d := d) (I := I') (M := rws I' (lo + 146)) (x := I b (i + 1)) (b := true) (by omega) hM (by omega) (h.tS e) a1
      rw [show sB I' (lo + 146) 26 (rws I' (lo + 146)) = I' from sB_id, b2i_t] at q
      have n0 : rws I' (lo + 146) 1 = I (lo + 147) := e
      simp only [n0, o3, w4] at q
      exact q)
    refine ⟨μ1, I2, ?_, h2⟩
    have hk1 := k1.trans hkb
    have kO := h.1.o.1
    have kM := hC1.M146.1
    simp (disch := omega) only [b312_1071, b312_1085, b312_1089, b312_1090, b312_1093, b312_1107, b312_1111, b312_1112, b312_1115, b312_1118, rdA_k hkb, rdA_k hk1, gO_k kO, gO_k kM, e1, k2, e2, eq_self, lgs, cz, Jl0, Jl1, Jl2, Jl3, Jl4, Jl5, Jl6, Jl7, Jl8, Jl9, Jl10, Jl11, Jl12, Jl13, Jl14, Jl15, Jl16, Jl17, Jl18, Jl19, Jl20, Jl22, Jl24, Jl28, Jl30, Jl31, Jl32, Jl35, Jl36, Jl37, Jl38, Jl39, Jl40, Jl48, Jl57, Jl59, Jl60, Jl61, Jl63, Jl64, Jl68, Jl69, Jl96, Jl97, Jl98, Jl99, Jl100, Jl122, Jl149, Jl150, Jl165, Jl255, Jl511, Jl512, Jl600, Jl610, Jl940, Jl968, Jl999, Jl1134, Jl1152, Jl2048, Jl4608, Jl9999, Jl99999, Jl100000, Jl147456, Jl12345, Jl1103515245, Jl100000000, Jlm1, Jlm2, J_add, J_sub, J_mul, J_lt, J_le, J_eq, J_ite, J_cl, ri_j, wi_j, b2i_z, b2i_o, b2i_zo, Int.cast_ofNat_Int, Int.natCast_zero, Int.natCast_one, if_true, if_false, ite_self, Int.le_refl, J_bit, J_or, J_neg, J_oN, Int.reduceEq, Int.reduceLT, Int.reduceLE, Int.reduceNeg, Int.reduceAdd, Int.reduceSub, Int.reduceMul, Int.reduceToNat, J_shl, J_shr, V_ite, true_or, or_true, nz_j, J_div, J_rem, Option.bind_some, Option.toList_some, Option.toList_none, List.cons_append, List.nil_append, Jl21, Jl23, Jl25, Jl74, Jl83, Jl288, Jl324, Jl1800, Jlm8]
theorem op_standins (hd : 20 ≤ d) (h : INV E lo b L μ I) (hi : 0 ≤ i ∧ i + 7 ≤ (L : Int)) : STP E lo b L d i (ex PG E lo d 312 1120 [some (.ref b), some (.ref lo), some (.ref ((lo + 146))), some (.int (J (i)))] [] (mj μ I)) := by
  have hl2 := h.2.2.1.2.2.1
  have hkb := h.2.2.1.2.1
  have a1 := h.b32 (j := i + 1) (by omega)
  have a2 := h.b32 (j := i + 2) (by omega)
  have a3 := h.b32 (j := i + 3) (by omega)
  have a4 := h.b32 (j := i + 4) (by omega)
  have c0 := (h.cnt (s := 0) (by omega)).1
  have c1 := (h.cnt (s := 1) (by omega)).1
  have c2 := (h.cnt (s := 2) (by omega)).1
  have c3 := (h.cnt (s := 3) (by omega)).1
  have cz0 := J_eq (a := I b (i + 4)) (b := 0) (by unfold i32 at a4; omega)
  by_cases cc : I b (i + 4) = 0
  · have cz : (J (I b (i + 4)) = J 0) = True := by rw [cz0]; exact eq_true cc
    have hc := c_standins (E := E) (lo := lo) (d := d) (x := I b (i + 1)) (y := I b (i + 2)) (z := I b (i + 3)) (bb := false) (by omega) h.CK ⟨a1, a2, a3⟩ rfl rfl rfl rfl
    rw [b2i_f] at hc
    simp only [c0, c1, c2, c3, o3b, w4b] at hc
    obtain ⟨μ1, I1, I2, e1, e2, h2, k1, k2, hC1⟩ := bothQ (r2 := fun μ' I' => cl E lo d 264 [.ref (lo + 146), .int (J (I b (i + 1))), .int (J (I b (i + 2))), .int (J (I b (i + 3))), .int (J 0)] (mj μ' I')) h hc (fun μ' I' f e hM => by
      have q := q_standins (E := E) (lo := lo) (d := d) (I := I') (M := rws I' (lo + 146)) (x := I b (i + 1)) (y := I b (i + 2)) (z := I b (i + 3)) (b := false) (T := rws I (lo + 74)) (by omega) hM (by omega) (h.tS e) (h.tL e) (h.tR e) ⟨a1, a2, a3⟩
      rw [show sB I' (lo + 146) 26 (rws I' (lo + 146)) = I' from sB_id, b2i_f] at q
      have n0 : rws I' (lo + 146) 1 = I (lo + 147) := e
      simp only [n0, o3, w4] at q
      exact q)
    refine ⟨μ1, I2, ?_, h2⟩
    have hk1 := k1.trans hkb
    have kO := h.1.o.1
    have kM := hC1.M146.1
    simp (disch := omega) only [b312_1120, b312_1144, b312_1148, b312_1149, b312_1152, b312_1176, b312_1180, b312_1181, b312_1184, b312_1187, rdA_k hkb, rdA_k hk1, gO_k kO, gO_k kM, e1, k2, e2, eq_self, lgs, cz, Jl0, Jl1, Jl2, Jl3, Jl4, Jl5, Jl6, Jl7, Jl8, Jl9, Jl10, Jl11, Jl12, Jl13, Jl14, Jl15, Jl16, Jl17, Jl18, Jl19, Jl20, Jl22, Jl24, Jl28, Jl30, Jl31, Jl32, Jl35, Jl36, Jl37, Jl38, Jl39, Jl40, Jl48, Jl57, Jl59, Jl60, Jl61, Jl63, Jl64, Jl68, Jl69, Jl96, Jl97, Jl98, Jl99, Jl100, Jl122, Jl149, Jl150, Jl165, Jl255, Jl511, Jl512, Jl600, Jl610, Jl940, Jl968, Jl999, Jl1134, Jl1152, Jl2048, Jl4608, Jl9999, Jl99999, Jl100000, Jl147456, Jl12345, Jl1103515245, Jl100000000, Jlm1, Jlm2, J_add, J_sub, J_mul, J_lt, J_le, J_eq, J_ite, J_cl, ri_j, wi_j, b2i_z, b2i_o, b2i_zo, Int.cast_ofNat_Int, Int.natCast_zero, Int.natCast_one, if_true, if_false, ite_self, Int.le_refl, J_bit, J_or, J_neg, J_oN, Int.reduceEq, Int.reduceLT, Int.reduceLE, Int.reduceNeg, Int.reduceAdd, Int.reduceSub, Int.reduceMul, Int.reduceToNat, J_shl, J_shr, V_ite, true_or, or_true, nz_j, J_div, J_rem, Option.bind_some, Option.toList_some, Option.toList_none, List.cons_append, List.nil_append, Jl21, Jl23, Jl25, Jl74, Jl83, Jl288, Jl324, Jl1800, Jlm8]
  · have cz : (J (I b (i + 4)) = J 0) = False := by rw [cz0]; exact eq_false cc
    have hc := c_standins (E := E) (lo := lo) (d := d) (x := I b (i + 1)) (y := I b (i + 2)) (z := I b (i + 3)) (bb := true) (by omega) h.CK ⟨a1, a2, a3⟩ rfl rfl rfl rfl
    rw [b2i_t] at hc
    simp only [c0, c1, c2, c3, o3b, w4b] at hc
    obtain ⟨μ1, I1, I2, e1, e2, h2, k1, k2, hC1⟩ := bothQ (r2 := fun μ' I' => cl E lo d 264 [.ref (lo + 146), .int (J (I b (i + 1))), .int (J (I b (i + 2))), .int (J (I b (i + 3))), .int (J 1)] (mj μ' I')) h hc (fun μ' I' f e hM => by
      have q := q_standins (E := E) (lo := lo) (d := d) (I := I') (M := rws I' (lo + 146)) (x := I b (i + 1)) (y := I b (i + 2)) (z := I b (i + 3)) (b := true) (T := rws I (lo + 74)) (by omega) hM (by omega) (h.tS e) (h.tL e) (h.tR e) ⟨a1, a2, a3⟩
      rw [show sB I' (lo + 146) 26 (rws I' (lo + 146)) = I' from sB_id, b2i_t] at q
      have n0 : rws I' (lo + 146) 1 = I (lo + 147) := e
      simp only [n0, o3, w4] at q
      exact q)
    refine ⟨μ1, I2, ?_, h2⟩
    have hk1 := k1.trans hkb
    have kO := h.1.o.1
    have kM := hC1.M146.1
    simp (disch := omega) only [b312_1120, b312_1144, b312_1148, b312_1149, b312_1152, b312_1176, b312_1180, b312_1181, b312_1184, b312_1187, rdA_k hkb, rdA_k hk1, gO_k kO, gO_k kM, e1, k2, e2, eq_self, lgs, cz, Jl0, Jl1, Jl2, Jl3, Jl4, Jl5, Jl6, Jl7, Jl8, Jl9, Jl10, Jl11, Jl12, Jl13, Jl14, Jl15, Jl16, Jl17, Jl18, Jl19, Jl20, Jl22, Jl24, Jl28, Jl30, Jl31, Jl32, Jl35, Jl36, Jl37, Jl38, Jl39, Jl40, Jl48, Jl57, Jl59, Jl60, Jl61, Jl63, Jl64, Jl68, Jl69, Jl96, Jl97, Jl98, Jl99, Jl100, Jl122, Jl149, Jl150, Jl165, Jl255, Jl511, Jl512, Jl600, Jl610, Jl940, Jl968, Jl999, Jl1134, Jl1152, Jl2048, Jl4608, Jl9999, Jl99999, Jl100000, Jl147456, Jl12345, Jl1103515245, Jl100000000, Jlm1, Jlm2, J_add, J_sub, J_mul, J_lt, J_le, J_eq, J_ite, J_cl, ri_j, wi_j, b2i_z, b2i_o, b2i_zo, Int.cast_ofNat_Int, Int.natCast_zero, Int.natCast_one, if_true, if_false, ite_self, Int.le_refl, J_bit, J_or, J_neg, J_oN, Int.reduceEq, Int.reduceLT, Int.reduceLE, Int.reduceNeg, Int.reduceAdd, Int.reduceSub, Int.reduceMul, Int.reduceToNat, J_shl, J_shr, V_ite, true_or, or_true, nz_j, J_div, J_rem, Option.bind_some, Option.toList_some, Option.toList_none, List.cons_append, List.nil_append, Jl21, Jl23, Jl25, Jl74, Jl83, Jl288, Jl324, Jl1800, Jlm8]
end LAW
