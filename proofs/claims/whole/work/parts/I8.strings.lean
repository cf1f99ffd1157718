/-! TEXTS' SIGNS -/
theorem chr_a : ∀ n, n < 128 → (Int32.toUInt32 (nI n) % 65536).toInt32 = nI n := by decide +kernel
theorem chr_b : ∀ n, n < 128 → narrow .char (.int (nI n)) = .int (nI n) := by decide +kernel
theorem chr_J {c : Int} (h : 0 ≤ c ∧ c < 128) : (Int32.toUInt32 (J c) % 65536).toInt32 = J c := by
  rw [J_Nn h.1]
  exact chr_a _ (by omega)
theorem chr_N {c : Int} (h : 0 ≤ c ∧ c < 128) : narrow .char (.int (J c)) = .int (J c) := by
  rw [J_Nn h.1]
  exact chr_b _ (by omega)
/-- the text number q, at its place, holds the signs C; strings are kept short -/
def ShTx (E : (Nat → Value) × (Nat → Nat)) (μ : rM) (I : Nat → Int → Int) (a q : Nat) (n : Nat) (C : Int → Int) : Prop := strNo E a = some q ∧ rk μ (E.2 (q + 100)) = some (.inr (1, n)) ∧ (n < 1000 ∧ ∀ j : Int, 0 ≤ j → j < n → I (E.2 (q + 100)) j = C j ∧ 0 ≤ C j ∧ C j < 128) ∧ E.1 5 = .int 1 ∧ (E.1 6).category = 1
section TEXTS
variable {E : (Nat → Value) × (Nat → Nat)} {lo d a q n : Nat} {μ : rM} {I : Nat → Int → Int} {C : Int → Int} {x y : Int} {v : Value}
theorem e292v (hv : v.category = 1) (x0 x1 : Int32) : cl E lo (d + 1) 292 [.int x0, .int x1, v] μ = ex PG E lo d 292 0 [some (.int x0), some (.int x1), some v] [] μ := by
  cases v <;> first | rfl | (exact absurd (show (2 : Nat) = 1 from hv) (by decide))
theorem b292v_0 (x0 x1 : Int32) : ex PG E lo d 292 0 [some (.int x0), some (.int x1), some v] [] μ = if x0 < (0 : Int32) then ex PG E lo d 292 9 [some (.int x0), some (.int x1), some v] [] μ else ex PG E lo d 292 4 [some (.int x0), some (.int x1), some v] [] μ := (x_iload_n (n := 0) (pc := 0) mI292 rfl rfl).trans (x_iflt (t := 9) (pc := 1) mI292 rfl (by decide))
theorem b292v_4 (x0 x1 : Int32) : ex PG E lo d 292 4 [some (.int x0), some (.int x1), some v] [] μ = if x0 < x1 then ex PG E lo d 292 16 [some (.int x0), some (.int x1), some v] [] μ else ex PG E lo d 292 9 [some (.int x0), some (.int x1), some v] [] μ := (x_iload_n (n := 0) (pc := 4) mI292 rfl rfl).trans ((x_iload_n (n := 1) (pc := 5) mI292 rfl rfl).trans (x_cmplt (t := 16) (pc := 6) mI292 rfl (by decide)))
theorem b292v_16 (x0 x1 : Int32) : ex PG E lo d 292 16 [some (.int x0), some (.int x1), some v] [] μ = some (some (.int x0), μ) := (x_iload_n (n := 0) (pc := 16) mI292 rfl rfl).trans (x_iret (pc := 17) mI292 rfl rfl)
theorem chk_sp (hd : 2 ≤ d) (h6 : (E.1 6).category = 1) (hx : 0 ≤ x ∧ x < y ∧ y < 2147483648) : cl E lo d 285 [.int (J (x)), .int (J (y))] μ = some (none, μ) := by
  obtain ⟨d, rfl⟩ : ∃ e, d = e + 1 := ⟨d - 1, by omega⟩
  obtain ⟨d, rfl⟩ : ∃ e, d = e + 1 := ⟨d - 1, by omega⟩
  have h2 : cl E lo (d + 1) 292 [.int (J x), .int (J y), E.1 6] μ = some (some (.int (J x)), μ) := by
    rw [e292v h6, b292v_0]
    simp (disch := omega) only [b292v_4, b292v_16, Jl0, Jl1, Jl2, Jl3, Jl4, Jl5, Jl6, Jl7, Jl8, Jl9, Jl10, Jl11, Jl12, Jl13, Jl14, Jl15, Jl16, Jl17, Jl18, Jl19, Jl20, Jl22, Jl24, Jl28, Jl30, Jl31, Jl32, Jl35, Jl36, Jl37, Jl38, Jl39, Jl40, Jl48, Jl57, Jl59, Jl60, Jl61, Jl63, Jl64, Jl68, Jl69, Jl96, Jl97, Jl98, Jl99, Jl100, Jl122, Jl149, Jl150, Jl165, Jl255, Jl511, Jl512, Jl600, Jl610, Jl940, Jl968, Jl999, Jl1134, Jl1152, Jl2048, Jl4608, Jl9999, Jl99999, Jl100000, Jl147456, Jl12345, Jl1103515245, Jl100000000, Jlm1, Jlm2, J_add, J_sub, J_mul, J_lt, J_le, J_eq, J_ite, J_cl, ri_j, wi_j, b2i_z, b2i_o, b2i_zo, Int.cast_ofNat_Int, Int.natCast_zero, Int.natCast_one, if_true, if_false, ite_self, Int.le_refl, J_bit, J_or, J_neg, J_oN, Int.reduceEq, Int.reduceLT, Int.reduceLE, Int.reduceNeg, Int.reduceAdd, Int.reduceSub, Int.reduceMul, Int.reduceToNat, J_shl, J_shr, V_ite, true_or, or_true, nz_j, J_div, J_rem, Option.bind_some, Option.toList_some, Option.toList_none, List.cons_append, List.nil_append, Jl21, Jl23, Jl25, Jl74, Jl83, Jl288, Jl324, Jl1800, Jlm8]
    repeat (first | rw [if_neg (by omega)] | rw [if_pos (by omega)])
  simp (disch := omega) only [e285, b285_0, b285_8, b285_5, h2, Jl0, Jl1, Jl2, Jl3, Jl4, Jl5, Jl6, Jl7, Jl8, Jl9, Jl10, Jl11, Jl12, Jl13, Jl14, Jl15, Jl16, Jl17, Jl18, Jl19, Jl20, Jl22, Jl24, Jl28, Jl30, Jl31, Jl32, Jl35, Jl36, Jl37, Jl38, Jl39, Jl40, Jl48, Jl57, Jl59, Jl60, Jl61, Jl63, Jl64, Jl68, Jl69, Jl96, Jl97, Jl98, Jl99, Jl100, Jl122, Jl149, Jl150, Jl165, Jl255, Jl511, Jl512, Jl600, Jl610, Jl940, Jl968, Jl999, Jl1134, Jl1152, Jl2048, Jl4608, Jl9999, Jl99999, Jl100000, Jl147456, Jl12345, Jl1103515245, Jl100000000, Jlm1, Jlm2, J_add, J_sub, J_mul, J_lt, J_le, J_eq, J_ite, J_cl, ri_j, wi_j, b2i_z, b2i_o, b2i_zo, Int.cast_ofNat_Int, Int.natCast_zero, Int.natCast_one, if_true, if_false, ite_self, Int.le_refl, J_bit, J_or, J_neg, J_oN, Int.reduceEq, Int.reduceLT, Int.reduceLE, Int.reduceNeg, Int.reduceAdd, Int.reduceSub, Int.reduceMul, Int.reduceToNat, J_shl, J_shr, V_ite, true_or, or_true, nz_j, J_div, J_rem, Option.bind_some, Option.toList_some, Option.toList_none, List.cons_append, List.nil_append, Jl21, Jl23, Jl25, Jl74, Jl83, Jl288, Jl324, Jl1800, Jlm8]
theorem chat_sp (hd : 3 ≤ d) (hT : ShTx E μ I a q n C) (hx : 0 ≤ x ∧ x < n) : cl E lo d 291 [.ref ((E.2 (q + 100))), .int (J (x))] (mj μ I) = some (some (.int (J (C x))), mj μ I) := by
  obtain ⟨d, rfl⟩ : ∃ e, d = e + 1 := ⟨d - 1, by omega⟩
  obtain ⟨h1, h2, ⟨h3, h4⟩, h5, h6⟩ := hT
  obtain ⟨c1, c2⟩ := h4 x hx.1 hx.2
  have h3t : (1 : Nat) = 1 ∨ (1 : Nat) = 2 := Or.inl rfl
  have hc := fun μ => chk_sp (E := E) (lo := lo) (d := d) (μ := μ) (x := x) (y := n) (by omega) h6 ⟨hx.1, hx.2, by omega⟩
  have en : Int32.ofNat n = J n := J_nI n
  have e1 := chr_J c2
  have e2 := chr_N c2
  have e3 : J (C x) &&& J 255 = J (C x) := by
    rw [J_and255]
    congr 1
    omega
  simp (disch := omega) only [e291, b291_0, b291_6, alen_k h2, rdB_k h2 h3t, en, hc, c1, e3, e1, e2, Jl0, Jl1, Jl2, Jl3, Jl4, Jl5, Jl6, Jl7, Jl8, Jl9, Jl10, Jl11, Jl12, Jl13, Jl14, Jl15, Jl16, Jl17, Jl18, Jl19, Jl20, Jl22, Jl24, Jl28, Jl30, Jl31, Jl32, Jl35, Jl36, Jl37, Jl38, Jl39, Jl40, Jl48, Jl57, Jl59, Jl60, Jl61, Jl63, Jl64, Jl68, Jl69, Jl96, Jl97, Jl98, Jl99, Jl100, Jl122, Jl149, Jl150, Jl165, Jl255, Jl511, Jl512, Jl600, Jl610, Jl940, Jl968, Jl999, Jl1134, Jl1152, Jl2048, Jl4608, Jl9999, Jl99999, Jl100000, Jl147456, Jl12345, Jl1103515245, Jl100000000, Jlm1, Jlm2, J_add, J_sub, J_mul, J_lt, J_le, J_eq, J_ite, J_cl, ri_j, wi_j, b2i_z, b2i_o, b2i_zo, Int.cast_ofNat_Int, Int.natCast_zero, Int.natCast_one, if_true, if_false, ite_self, Int.le_refl, J_bit, J_or, J_neg, J_oN, Int.reduceEq, Int.reduceLT, Int.reduceLE, Int.reduceNeg, Int.reduceAdd, Int.reduceSub, Int.reduceMul, Int.reduceToNat, J_shl, J_shr, V_ite, true_or, or_true, nz_j, J_div, J_rem, Option.bind_some, Option.toList_some, Option.toList_none, List.cons_append, List.nil_append, Jl21, Jl23, Jl25, Jl74, Jl83, Jl288, Jl324, Jl1800, Jlm8]
theorem char_sp (hd : 4 ≤ d) (hT : ShTx E μ I a q n C) (hx : 0 ≤ x ∧ x < n) : cl E lo d 282 [.ref a, .int (J (x))] (mj μ I) = some (some (.int (J (C x))), mj μ I) := by
  obtain ⟨d, rfl⟩ : ∃ e, d = e + 1 := ⟨d - 1, by omega⟩
  have hc := chat_sp (E := E) (lo := lo) (d := d) (by omega) hT hx
  obtain ⟨d, rfl⟩ : ∃ e, d = e + 1 := ⟨d - 1, by omega⟩
  obtain ⟨h1, h2, ⟨h3, h4⟩, h5, h6⟩ := hT
  obtain ⟨c1, c2⟩ := h4 x hx.1 hx.2
  have e2 := chr_N c2
  have hL : cl E lo (d + 1) 284 [.ref a] (mj μ I) = some (some (.int (J 1)), mj μ I) := by
    rw [e284, b284_0, h5]
    simp (disch := omega) only [b284_3, b284_6, b284_13, b284_18, h1, Jl0, Jl1, Jl2, Jl3, Jl4, Jl5, Jl6, Jl7, Jl8, Jl9, Jl10, Jl11, Jl12, Jl13, Jl14, Jl15, Jl16, Jl17, Jl18, Jl19, Jl20, Jl22, Jl24, Jl28, Jl30, Jl31, Jl32, Jl35, Jl36, Jl37, Jl38, Jl39, Jl40, Jl48, Jl57, Jl59, Jl60, Jl61, Jl63, Jl64, Jl68, Jl69, Jl96, Jl97, Jl98, Jl99, Jl100, Jl122, Jl149, Jl150, Jl165, Jl255, Jl511, Jl512, Jl600, Jl610, Jl940, Jl968, Jl999, Jl1134, Jl1152, Jl2048, Jl4608, Jl9999, Jl99999, Jl100000, Jl147456, Jl12345, Jl1103515245, Jl100000000, Jlm1, Jlm2, J_add, J_sub, J_mul, J_lt, J_le, J_eq, J_ite, J_cl, ri_j, wi_j, b2i_z, b2i_o, b2i_zo, Int.cast_ofNat_Int, Int.natCast_zero, Int.natCast_one, if_true, if_false, ite_self, Int.le_refl, J_bit, J_or, J_neg, J_oN, Int.reduceEq, Int.reduceLT, Int.reduceLE, Int.reduceNeg, Int.reduceAdd, Int.reduceSub, Int.reduceMul, Int.reduceToNat, J_shl, J_shr, V_ite, true_or, or_true, nz_j, J_div, J_rem, Option.bind_some, Option.toList_some, Option.toList_none, List.cons_append, List.nil_append, Jl21, Jl23, Jl25, Jl74, Jl83, Jl288, Jl324, Jl1800, Jlm8]
  simp (disch := omega) only [e282, b282_0, b282_4, b282_7, b282_15, h1, hL, hc, e2, Jl0, Jl1, Jl2, Jl3, Jl4, Jl5, Jl6, Jl7, Jl8, Jl9, Jl10, Jl11, Jl12, Jl13, Jl14, Jl15, Jl16, Jl17, Jl18, Jl19, Jl20, Jl22, Jl24, Jl28, Jl30, Jl31, Jl32, Jl35, Jl36, Jl37, Jl38, Jl39, Jl40, Jl48, Jl57, Jl59, Jl60, Jl61, Jl63, Jl64, Jl68, Jl69, Jl96, Jl97, Jl98, Jl99, Jl100, Jl122, Jl149, Jl150, Jl165, Jl255, Jl511, Jl512, Jl600, Jl610, Jl940, Jl968, Jl999, Jl1134, Jl1152, Jl2048, Jl4608, Jl9999, Jl99999, Jl100000, Jl147456, Jl12345, Jl1103515245, Jl100000000, Jlm1, Jlm2, J_add, J_sub, J_mul, J_lt, J_le, J_eq, J_ite, J_cl, ri_j, wi_j, b2i_z, b2i_o, b2i_zo, Int.cast_ofNat_Int, Int.natCast_zero, Int.natCast_one, if_true, if_false, ite_self, Int.le_refl, J_bit, J_or, J_neg, J_oN, Int.reduceEq, Int.reduceLT, Int.reduceLE, Int.reduceNeg, Int.reduceAdd, Int.reduceSub, Int.reduceMul, Int.reduceToNat, J_shl, J_shr, V_ite, true_or, or_true, nz_j, J_div, J_rem, Option.bind_some, Option.toList_some, Option.toList_none, List.cons_append, List.nil_append, Jl21, Jl23, Jl25, Jl74, Jl83, Jl288, Jl324, Jl1800, Jlm8]
theorem len_sp (hd : 2 ≤ d) (hT : ShTx E μ I a q n C) : cl E lo d 281 [.ref a] (mj μ I) = some (some (.int (J n)), mj μ I) := by
  obtain ⟨d, rfl⟩ : ∃ e, d = e + 1 := ⟨d - 1, by omega⟩
  obtain ⟨d, rfl⟩ : ∃ e, d = e + 1 := ⟨d - 1, by omega⟩
  obtain ⟨h1, h2, ⟨h3, h4⟩, h5, h6⟩ := hT
  have en : Int32.ofNat n = J n := J_nI n
  have eb : narrow .byte (.int (J 0)) = .int (J 0) := by decide
  have hL : cl E lo (d + 1) 283 [.ref a] (mj μ I) = some (some (.int (J 0)), mj μ I) := by
    rw [e283, b283_0, h5]
    simp (disch := omega) only [b283_3, b283_6, b283_14, h1, eb, Jl0, Jl1, Jl2, Jl3, Jl4, Jl5, Jl6, Jl7, Jl8, Jl9, Jl10, Jl11, Jl12, Jl13, Jl14, Jl15, Jl16, Jl17, Jl18, Jl19, Jl20, Jl22, Jl24, Jl28, Jl30, Jl31, Jl32, Jl35, Jl36, Jl37, Jl38, Jl39, Jl40, Jl48, Jl57, Jl59, Jl60, Jl61, Jl63, Jl64, Jl68, Jl69, Jl96, Jl97, Jl98, Jl99, Jl100, Jl122, Jl149, Jl150, Jl165, Jl255, Jl511, Jl512, Jl600, Jl610, Jl940, Jl968, Jl999, Jl1134, Jl1152, Jl2048, Jl4608, Jl9999, Jl99999, Jl100000, Jl147456, Jl12345, Jl1103515245, Jl100000000, Jlm1, Jlm2, J_add, J_sub, J_mul, J_lt, J_le, J_eq, J_ite, J_cl, ri_j, wi_j, b2i_z, b2i_o, b2i_zo, Int.cast_ofNat_Int, Int.natCast_zero, Int.natCast_one, if_true, if_false, ite_self, Int.le_refl, J_bit, J_or, J_neg, J_oN, Int.reduceEq, Int.reduceLT, Int.reduceLE, Int.reduceNeg, Int.reduceAdd, Int.reduceSub, Int.reduceMul, Int.reduceToNat, J_shl, J_shr, V_ite, true_or, or_true, nz_j, J_div, J_rem, Option.bind_some, Option.toList_some, Option.toList_none, List.cons_append, List.nil_append, Jl21, Jl23, Jl25, Jl74, Jl83, Jl288, Jl324, Jl1800, Jlm8]
  have e0 : J n >>> (J 0 &&& J 31) = J n := by
    rw [J_sar (by unfold i32; omega) (by omega)]
    congr 1
    exact Int.ediv_one _
  simp (disch := omega) only [e281, b281_0, b281_9, h1, alen_k h2, hL, en, e0, Jl0, Jl1, Jl2, Jl3, Jl4, Jl5, Jl6, Jl7, Jl8, Jl9, Jl10, Jl11, Jl12, Jl13, Jl14, Jl15, Jl16, Jl17, Jl18, Jl19, Jl20, Jl22, Jl24, Jl28, Jl30, Jl31, Jl32, Jl35, Jl36, Jl37, Jl38, Jl39, Jl40, Jl48, Jl57, Jl59, Jl60, Jl61, Jl63, Jl64, Jl68, Jl69, Jl96, Jl97, Jl98, Jl99, Jl100, Jl122, Jl149, Jl150, Jl165, Jl255, Jl511, Jl512, Jl600, Jl610, Jl940, Jl968, Jl999, Jl1134, Jl1152, Jl2048, Jl4608, Jl9999, Jl99999, Jl100000, Jl147456, Jl12345, Jl1103515245, Jl100000000, Jlm1, Jlm2, J_add, J_sub, J_mul, J_lt, J_le, J_eq, J_ite, J_cl, ri_j, wi_j, b2i_z, b2i_o, b2i_zo, Int.cast_ofNat_Int, Int.natCast_zero, Int.natCast_one, if_true, if_false, ite_self, Int.le_refl, J_bit, J_or, J_neg, J_oN, Int.reduceEq, Int.reduceLT, Int.reduceLE, Int.reduceNeg, Int.reduceAdd, Int.reduceSub, Int.reduceMul, Int.reduceToNat, J_shl, J_shr, V_ite, true_or, or_true, nz_j, J_div, J_rem, Option.bind_some, Option.toList_some, Option.toList_none, List.cons_append, List.nil_append, Jl21, Jl23, Jl25, Jl74, Jl83, Jl288, Jl324, Jl1800, Jlm8]
end TEXTS
