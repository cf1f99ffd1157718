/-! THE LAW: its loop -/
section LAW
variable {E : (Nat → Value) × (Nat → Nat)} {lo b L d : Nat} {μ : rM} {I : Nat → Int → Int} {i : Int}
theorem law_op (hd : 20 ≤ d) (h : INV E lo b L μ I) (hi : 0 ≤ i ∧ i + 7 ≤ (L : Int)) : STP E lo b L d i (ex PG E lo d 312 27 [some (.ref b), some (.ref lo), some (.ref ((lo + 146))), some (.int (J (i)))] [] (mj μ I)) := by
  have hl2 := h.2.2.1.2.2.1
  have hkb := h.2.2.1.2.1
  rw [b312_27, rdA_k hkb (by omega)]
  generalize ri (mj μ I) b (J i).toNatClampNeg &&& 63 = y
  unfold tsw
  split
  · exact ⟨μ, I, rfl, h⟩
  · rename_i c
    simp only [List.length_cons, List.length_nil] at c
    obtain ⟨k, hk⟩ : ∃ k, k = (y.toInt - 0).toNat := ⟨_, rfl⟩
    have hk34 : k < 34 := by omega
    rw [← hk]
    match k, hk34 with
    | 0, _ => exact op_feed hd h hi
    | 1, _ => exact op_end hd h hi
    | 2, _ => exact op_text hd h hi
    | 3, _ => exact op_fault hd h hi
    | 4, _ => exact op_street hd h hi
    | 5, _ => exact op_sleeper hd h hi
    | 6, _ => exact op_wine hd h hi
    | 7, _ => exact op_depth hd h hi
    | 8, _ => exact op_law hd h hi
    | 9, _ => exact op_act hd h hi
    | 10, _ => exact op_stop hd h hi
    | 11, _ => exact op_state hd h hi
    | 12, _ => exact op_hours hd h hi
    | 13, _ => exact op_seven hd h hi
    | 14, _ => exact op_refuge hd h hi
    | 15, _ => exact op_sold hd h hi
    | 16, _ => exact op_quick hd h hi
    | 17, _ => exact op_told hd h hi
    | 18, _ => exact op_went hd h hi
    | 19, _ => exact op_soonest hd h hi
    | 20, _ => exact op_cats hd h hi
    | 21, _ => exact op_standins hd h hi
    | 22, _ => exact op_arrears hd h hi
    | 23, _ => exact op_odds hd h hi
    | 24, _ => exact op_drawn hd h hi
    | 25, _ => exact op_loud hd h hi
    | 26, _ => exact op_calm hd h hi
    | 27, _ => exact op_paid hd h hi
    | 28, _ => exact op_twice hd h hi
    | 29, _ => exact op_share hd h hi
    | 30, _ => exact op_trip hd h hi
    | 31, _ => exact op_count hd h hi
    | 32, _ => exact op_image hd h hi
    | 33, _ => exact op_again hd h hi
    | k + 34, z => exact absurd z (by omega)
theorem law_loop (hd : 20 ≤ d) : ∀ (n : Nat) (i : Int) (μ : rM) (I : Nat → Int → Int), INV E lo b L μ I → 0 ≤ i → i ≤ (L : Int) → (L : Int) - i < n → ∃ μ' I', ex PG E lo d 312 18 [some (.ref b), some (.ref lo), some (.ref ((lo + 146))), some (.int (J (i)))] [] (mj μ I) = some (some (.int (J 1)), mj μ' I') ∧ INV E lo b L μ' I' := by
  intro n
  induction n with
  | zero => intro i μ I h h0 h1 h2; omega
  | succ n ih =>
    intro i μ I h h0 h1 h2
    have hl2 := h.2.2.1.2.2.1
    have hkb := h.2.2.1.2.1
    have e18 : ex PG E lo d 312 18 [some (.ref b), some (.ref lo), some (.ref ((lo + 146))), some (.int (J (i)))] [] (mj μ I) = if (L : Int) - 7 < i then ex PG E lo d 312 1833 [some (.ref b), some (.ref lo), some (.ref ((lo + 146))), some (.int (J (i)))] [] (mj μ I) else ex PG E lo d 312 27 [some (.ref b), some (.ref lo), some (.ref ((lo + 146))), some (.int (J (i)))] [] (mj μ I) := by
      rw [b312_18, alen_k hkb, J_oN]
      simp (disch := omega) only [Jl0, Jl1, Jl2, Jl3, Jl4, Jl5, Jl6, Jl7, Jl8, Jl9, Jl10, Jl11, Jl12, Jl13, Jl14, Jl15, Jl16, Jl17, Jl18, Jl19, Jl20, Jl22, Jl24, Jl28, Jl30, Jl31, Jl32, Jl35, Jl36, Jl37, Jl38, Jl39, Jl40, Jl48, Jl57, Jl59, Jl60, Jl61, Jl63, Jl64, Jl68, Jl69, Jl96, Jl97, Jl98, Jl99, Jl100, Jl122, Jl149, Jl150, Jl165, Jl255, Jl511, Jl512, Jl600, Jl610, Jl940, Jl968, Jl999, Jl1134, Jl1152, Jl2048, Jl4608, Jl9999, Jl99999, Jl100000, Jl147456, Jl12345, Jl1103515245, Jl100000000, Jlm1, Jlm2, J_add, J_sub, J_mul, J_lt, J_le, J_eq, J_ite, J_cl, ri_j, wi_j, b2i_z, b2i_o, b2i_zo, Int.cast_ofNat_Int, Int.natCast_zero, Int.natCast_one, if_true, if_false, ite_self, Int.le_refl, J_bit, J_or, J_neg, J_oN, Int.reduceEq, Int.reduceLT, Int.reduceLE, Int.reduceNeg, Int.reduceAdd, Int.reduceSub, Int.reduceMul, Int.reduceToNat, J_shl, J_shr, V_ite, true_or, or_true, nz_j, J_div, J_rem, Option.bind_some, Option.toList_some, Option.toList_none, List.cons_append, List.nil_append, Jl21, Jl23, Jl25, Jl74, Jl83, Jl288, Jl324, Jl1800, Jlm8]
    rw [e18]
    by_cases c : (L : Int) - 7 < i
    · rw [if_pos c]
      refine ⟨μ, I, ?_, h⟩
      simp (disch := omega) only [b312_1833, Jl0, Jl1, Jl2, Jl3, Jl4, Jl5, Jl6, Jl7, Jl8, Jl9, Jl10, Jl11, Jl12, Jl13, Jl14, Jl15, Jl16, Jl17, Jl18, Jl19, Jl20, Jl22, Jl24, Jl28, Jl30, Jl31, Jl32, Jl35, Jl36, Jl37, Jl38, Jl39, Jl40, Jl48, Jl57, Jl59, Jl60, Jl61, Jl63, Jl64, Jl68, Jl69, Jl96, Jl97, Jl98, Jl99, Jl100, Jl122, Jl149, Jl150, Jl165, Jl255, Jl511, Jl512, Jl600, Jl610, Jl940, Jl968, Jl999, Jl1134, Jl1152, Jl2048, Jl4608, Jl9999, Jl99999, Jl100000, Jl147456, Jl12345, Jl1103515245, Jl100000000, Jlm1, Jlm2, J_add, J_sub, J_mul, J_lt, J_le, J_eq, J_ite, J_cl, ri_j, wi_j, b2i_z, b2i_o, b2i_zo, Int.cast_ofNat_Int, Int.natCast_zero, Int.natCast_one, if_true, if_false, ite_self, Int.le_refl, J_bit, J_or, J_neg, J_oN, Int.reduceEq, Int.reduceLT, Int.reduceLE, Int.reduceNeg, Int.reduceAdd, Int.reduceSub, Int.reduceMul, Int.reduceToNat, J_shl, J_shr, V_ite, true_or, or_true, nz_j, J_div, J_rem, Option.bind_some, Option.toList_some, Option.toList_none, List.cons_append, List.nil_append, Jl21, Jl23, Jl25, Jl74, Jl83, Jl288, Jl324, Jl1800, Jlm8]
    · rw [if_neg c]
      obtain ⟨μ1, I1, e1, h3⟩ := law_op (E := E) (d := d) hd h (i := i) (by omega)
      rw [e1]
      obtain ⟨μ2, I2, e2, h4⟩ := ih (i + 7) μ1 I1 h3 (by omega) (by omega) (by omega)
      refine ⟨μ2, I2, ?_, h4⟩
      rw [← e2]
      simp (disch := omega) only [b312_1827, Jl0, Jl1, Jl2, Jl3, Jl4, Jl5, Jl6, Jl7, Jl8, Jl9, Jl10, Jl11, Jl12, Jl13, Jl14, Jl15, Jl16, Jl17, Jl18, Jl19, Jl20, Jl22, Jl24, Jl28, Jl30, Jl31, Jl32, Jl35, Jl36, Jl37, Jl38, Jl39, Jl40, Jl48, Jl57, Jl59, Jl60, Jl61, Jl63, Jl64, Jl68, Jl69, Jl96, Jl97, Jl98, Jl99, Jl100, Jl122, Jl149, Jl150, Jl165, Jl255, Jl511, Jl512, Jl600, Jl610, Jl940, Jl968, Jl999, Jl1134, Jl1152, Jl2048, Jl4608, Jl9999, Jl99999, Jl100000, Jl147456, Jl12345, Jl1103515245, Jl100000000, Jlm1, Jlm2, J_add, J_sub, J_mul, J_lt, J_le, J_eq, J_ite, J_cl, ri_j, wi_j, b2i_z, b2i_o, b2i_zo, Int.cast_ofNat_Int, Int.natCast_zero, Int.natCast_one, if_true, if_false, ite_self, Int.le_refl, J_bit, J_or, J_neg, J_oN, Int.reduceEq, Int.reduceLT, Int.reduceLE, Int.reduceNeg, Int.reduceAdd, Int.reduceSub, Int.reduceMul, Int.reduceToNat, J_shl, J_shr, V_ite, true_or, or_true, nz_j, J_div, J_rem, Option.bind_some, Option.toList_some, Option.toList_none, List.cons_append, List.nil_append, Jl21, Jl23, Jl25, Jl74, Jl83, Jl288, Jl324, Jl1800, Jlm8]
end LAW
