/-! THE CLASS: questions to a night -/
def CK (μ : rM) (I : Nat → Int → Int) (lo : Nat) : Prop := CO μ lo ∧ TOK I lo ∧ (DV (I (lo + 84 + 14)) ∧ SiV (I (lo + 84 + 15))) ∧ SIL I lo ∧ LV (rws I (lo + 72))
def o3b (I : Nat → Int → Int) (lo : Nat) (x y z : Int) : Bool := decide ((0 ≤ x ∧ x < I (lo + 1 + 2) 0) ∧ (0 ≤ y ∧ y < I (lo + 1 + 2) 1) ∧ (0 ≤ z ∧ z < I (lo + 1 + 2) 2))
theorem o3b_y {I : Nat → Int → Int} {lo : Nat} {x y z : Int} (h : o3c I lo x y z) : o3b I lo x y z = true := by
  unfold o3b
  exact decide_eq_true h
theorem o3b_c {I : Nat → Int → Int} {lo : Nat} {x y z : Int} (h : o3b I lo x y z = true) : o3c I lo x y z := by
  unfold o3b at h
  unfold o3c
  exact of_decide_eq_true h
section CLASS
variable {E : (Nat → Value) × (Nat → Nat)} {lo d s l t : Nat} {μ : rM} {I S L T R : Nat → Int → Int} {x y z w k u n h : Int} {b : Bool}
theorem iop (hd : 6 ≤ d) (hK : CK μ I lo) (hx : i32 x ∧ i32 y ∧ i32 z) (eS : S = rws I (lo + 8 + 20 * x.toNat)) (eL : L = rws I (lo + 21 + 20 * y.toNat)) (eR : R = rws I (lo + 23 + 20 * z.toNat)) (eT : T = wlS S R (rws I (lo + 74)) 40) (hy : o3c I lo x y z) : ∃ μ2 I2, cl E lo d 163 [.ref lo, .int (J (x)), .int (J (y)), .int (J (z))] (mj μ I) = some (some (.int (J 1)), mj μ2 I2) ∧ NO μ2 I2 lo (lo + 8 + 20 * x.toNat) (lo + 21 + 20 * y.toNat) (lo + 74) S L T ∧ FQ lo μ I μ2 I2 ∧ SV5 S ∧ LV L ∧ RV R ∧ TV T ∧ TZ T := by
  subst eS eL eR eT
  obtain ⟨y0, y1, y2⟩ := id hy
  have hV := hK.2.1.2.1 x y0.1 y0.2
  have hRV := hK.2.1.2.2.2.1 z y2.1 y2.2
  obtain ⟨w1, w2, _⟩ := wl_ok (S := rws I (lo + 8 + 20 * x.toNat)) (R := rws I (lo + 23 + 20 * z.toNat)) (T := rws I (lo + 74)) (x := 40) hV.1 hRV (by omega)
  obtain ⟨μ2, I2, o1, o2, o3⟩ := iop_y (E := E) hd hK.1 hK.2.1 hK.2.2.1 hx hy
  exact ⟨μ2, I2, o1, o2, o3, hV, hK.2.1.2.2.1 y y1.1 y1.2, hRV, w2, w1⟩
theorem ios (hd : 6 ≤ d) (hK : CK μ I lo) (hx : i32 x ∧ i32 y) (eS : S = rws I (lo + 8 + 20 * x.toNat)) (eL : L = rws I (lo + 21 + 20 * y.toNat)) (hy : (0 ≤ x ∧ x < I (lo + 1 + 2) 0) ∧ (0 ≤ y ∧ y < I (lo + 1 + 2) 1)) : ∃ μ2 I2, cl E lo d 164 [.ref lo, .int (J (x)), .int (J (y))] (mj μ I) = some (some (.int (J 1)), mj μ2 I2) ∧ NO μ2 I2 lo (lo + 8 + 20 * x.toNat) (lo + 21 + 20 * y.toNat) (lo + 79) S L (rws I (lo + 79)) ∧ FQ lo μ I μ2 I2 ∧ SV5 S ∧ LV L := by
  subst eS eL
  obtain ⟨μ2, I2, o1, o2, o3⟩ := ios_y (E := E) hd hK.1 hK.2.1 hK.2.2.1 hK.2.2.2.1 hx hy
  exact ⟨μ2, I2, o1, o2, o3, hK.2.1.2.1 x hy.1.1 hy.1.2, hK.2.1.2.2.1 y hy.2.1 hy.2.2⟩
theorem c_stop (hd : 4 ≤ d) (hK : CK μ I lo) (hx : i32 x ∧ i32 z) (eS : S = rws I (lo + 8 + 20 * x.toNat)) (eR : R = rws I (lo + 23 + 20 * z.toNat)) : CQ lo μ I (if (0 ≤ x ∧ x < I (lo + 1 + 2) 0) ∧ (0 ≤ z ∧ z < I (lo + 1 + 2) 2) then stQ S R 40 else -1) (cl E lo d 134 [.ref lo, .int (J (x)), .int (J (z))] (mj μ I)) := by
  subst eS eR
  by_cases c : (0 ≤ x ∧ x < I (lo + 1 + 2) 0) ∧ (0 ≤ z ∧ z < I (lo + 1 + 2) 2)
  · rw [if_pos c]
    exact ⟨μ, _, stop_y hd hK.1 hK.2.1 hx c, FQ_74⟩
  · rw [if_neg c]
    exact ⟨μ, I, stop_n hd hK.1 hK.2.1 hx c, FQ.r⟩
theorem NO.du {I2 : Nat → Int → Int} (h : NO μ I2 lo s l t S L T) : sm (I2 (lo + 84 + 16)) (S 0 3) = sm (dueT S L T (rdN S (siS S) T)) (S 0 3) := sm_congr _ _ (fun i a b => h.2.2.2 i a b)
theorem NO.db (h : NO μ I lo s l t S L T) (hTV : TV T) (hk : 0 ≤ k ∧ k < S 0 3) : 0 ≤ dueT S L T (rdN S (siS S) T) k ∧ dueT S L T (rdN S (siS S) T) k ≤ 999 := by
  have hV := h.1.2.2.2.2.2.1
  have hLV := h.1.2.2.2.2.2.2.2.1
  exact dueT_b hV hLV hTV hk (fun j u a b c d => rdT_b hV ⟨a, b⟩ ⟨c, d⟩ (siS_b hV))
theorem c_arrears (hd : 8 ≤ d) (hK : CK μ I lo) (hx : i32 x ∧ i32 y ∧ i32 z ∧ i32 k ∧ i32 n) (eS : S = rws I (lo + 8 + 20 * x.toNat)) (eL : L = rws I (lo + 21 + 20 * y.toNat)) (eR : R = rws I (lo + 23 + 20 * z.toNat)) (eT : T = wlS S R (rws I (lo + 74)) 40) : CQ lo μ I (if o3b I lo x y z = true ∧ (0 ≤ k ∧ k < S 0 3) ∧ (0 ≤ n ∧ n ≤ 99) then owQ (dueT S L T (rdN S (siS S) T) k) (upS S k - S 5 k) n else -1) (cl E lo d 148 [.ref lo, .int (J (x)), .int (J (y)), .int (J (z)), .int (J (k)), .int (J (n))] (mj μ I)) := by
  obtain ⟨d, rfl⟩ : ∃ e, d = e + 1 := ⟨d - 1, by omega⟩
  have hx' := hx
  unfold i32 at hx'
  have hC := hK.1
  obtain ⟨hO, f0, f1, f2, f3, f4, f5, f6, f7, f8, hD⟩ := CO.o hC
  have hil := isl_sp (E := E) (lo := lo) (d := d) (I := I) (x := x) (k := k) (by omega) hC (hK.2.1.1 0 (by omega) (by omega)) (hK.2.1.2.1 x) ⟨hx.1, hx.2.2.2.1⟩
  rw [← eS] at hil
  by_cases cn : 0 ≤ n ∧ n ≤ 99
  · by_cases ck : (0 ≤ x ∧ x < I (lo + 1 + 2) 0) ∧ 0 ≤ k ∧ k < S 0 3
    · rw [decide_eq_true ck] at hil
      by_cases c3 : o3c I lo x y z
      · rw [if_pos ⟨o3b_y c3, ck.2, cn⟩]
        obtain ⟨μ2, I2, o1, o2, o3, hV5, hLV, hRV, hTV, hTZ⟩ := iop (E := E) (d := d) (by omega) hK ⟨hx.1, hx.2.1, hx.2.2.1⟩ eS eL eR eT c3
        refine ⟨μ2, I2, ?_, o3⟩
        have hC2 := o3.C hC
        have dk := o2.2.2.2 k ck.2.1 ck.2.2
        have db := o2.db hTV ck.2
        have s1 : cl E lo (d + 1) 148 [.ref lo, .int (J x), .int (J y), .int (J z), .int (J k), .int (J n)] (mj μ I) = ex PG E lo d 148 34 [some (.ref lo), some (.int (J (x))), some (.int (J (y))), some (.int (J (z))), some (.int (J (k))), some (.int (J (n))), none, none, none, none] [] (mj μ2 I2) := by
          simp (disch := omega) only [b148_0, b148_5, b148_12, b148_19, b148_22, b148_29, e148, gO_k hO, gR_k f0, gR_k f1, gR_k f2, gR_k f3, gR_k f4, gR_k f5, gR_k f6, gR_k f7, gR_k f8, gO_D hD, gR_D0 hD, gR_D4 hD, gR_D5 hD, gR_D6 hD, gR_D7 hD, gR_D8 hD, al_D1 hD, al_D2 hD, al_D3 hD, al_D4 hD, al_D5 hD, al_D6 hD, rd_D1 hD, rd_D2 hD, rd_D3 hD, rd_D4 hD, rd_D5 hD, rd_D6 hD, hil, o1, b2i_t, Jl0, Jl1, Jl2, Jl3, Jl4, Jl5, Jl6, Jl7, Jl8, Jl9, Jl10, Jl11, Jl12, Jl13, Jl14, Jl15, Jl16, Jl17, Jl18, Jl19, Jl20, Jl22, Jl24, Jl28, Jl30, Jl31, Jl32, Jl35, Jl36, Jl37, Jl38, Jl39, Jl40, Jl48, Jl57, Jl59, Jl60, Jl61, Jl63, Jl64, Jl68, Jl69, Jl96, Jl97, Jl98, Jl99, Jl100, Jl122, Jl149, Jl150, Jl165, Jl255, Jl511, Jl512, Jl600, Jl610, Jl940, Jl968, Jl999, Jl1134, Jl1152, Jl2048, Jl4608, Jl9999, Jl99999, Jl100000, Jl147456, Jl12345, Jl1103515245, Jl100000000, Jlm1, Jlm2, J_add, J_sub, J_mul, J_lt, J_le, J_eq, J_ite, J_cl, ri_j, wi_j, b2i_z, b2i_o, b2i_zo, Int.cast_ofNat_Int, Int.natCast_zero, Int.natCast_one, if_true, if_false, ite_self, Int.le_refl, J_bit, J_or, J_neg, J_oN, Int.reduceEq, Int.reduceLT, Int.reduceLE, Int.reduceNeg, Int.reduceAdd, Int.reduceSub, Int.reduceMul, Int.reduceToNat, J_shl, J_shr, V_ite, true_or, or_true, nz_j, J_div, J_rem, Option.bind_some, Option.toList_some, Option.toList_none, List.cons_append, List.nil_append, Jl21, Jl23, Jl25, Jl74, Jl83, Jl288, Jl324, Jl1800, Jlm8]
          repeat (first | rw [if_neg (by omega)] | rw [if_pos (by omega)])
        rw [s1]
        obtain ⟨D, eD⟩ : ∃ D, D = dueT S L T (rdN S (siS S) T) k := ⟨_, rfl⟩
        rw [← eD] at dk db ⊢
        have hNC := o2.1
        obtain ⟨hN, h0, h1, h2, hS, hV, hL, hLV, hT, hTV, hA, hD, hI⟩ := id hNC
        have hl : lo ≤ lo + 84 := by omega
        clear hD
        have v := hV.1
        have hu := up_sp (E := E) (lo := lo) (d := d) (by omega) hS hV ck.2
        have ub := upS_b hV ck.2
        have ur := upS_r hV ck.2
        have vk := hV.2.2.1 k ck.2.1 ck.2.2
        obtain ⟨hO, f0, f1, f2, f3, f4, f5, f6, f7, f8, hD⟩ := CO.o hC2
        have s2 : ex PG E lo d 148 34 [some (.ref lo), some (.int (J (x))), some (.int (J (y))), some (.int (J (z))), some (.int (J (k))), some (.int (J (n))), none, none, none, none] [] (mj μ2 I2) = ex PG E lo d 148 83 [some (.ref lo), some (.int (J (x))), some (.int (J (y))), some (.int (J (z))), some (.int (J (k))), some (.int (J (n))), some (.int (J ((D * 6)))), some (.int (J ((upS S k - S 5 k)))), some (.int (J (0))), some (.int (J (0)))] [] (mj μ2 I2) := by
          simp (disch := omega) only [b148_34, b148_61, gO_k hO, gR_k f0, gR_k f1, gR_k f2, gR_k f3, gR_k f4, gR_k f5, gR_k f6, gR_k f7, gR_k f8, gO_D hD, gR_D0 hD, gR_D4 hD, gR_D5 hD, gR_D6 hD, gR_D7 hD, gR_D8 hD, al_D1 hD, al_D2 hD, al_D3 hD, al_D4 hD, al_D5 hD, al_D6 hD, rd_D1 hD, rd_D2 hD, rd_D3 hD, rd_D4 hD, rd_D5 hD, rd_D6 hD, gO_N hN, gR_N3 hN, gR_N4 hN, gR_N5 hN, gR_N6 hN, al_N14 hN, al_N15 hN, al_N16 hN, al_N17 hN, rd_N14 hN, rd_N15 hN, rd_N16 hN, rd_N17 hN, gP_N hN hl, wr_N14 hN hl, wr_N15 hN hl, wr_N16 hN hl, wr_N17 hN hl, gR_k h0, gR_k h1, gR_k h2, gO_S hS.1, gR_S2 hS.1, gR_S4 hS.1, gR_S5 hS.1, gR_S6 hS.1, gR_S7 hS.1, gR_S8 hS.1, gR_S9 hS.1, gR_S10 hS.1, gR_S11 hS.1, gR_S12 hS.1, gR_S14 hS.1, gR_S15 hS.1, al_S1 hS.1, al_S2 hS.1, al_S3 hS.1, al_S4 hS.1, al_S5 hS.1, al_S6 hS.1, al_S7 hS.1, al_S8 hS.1, al_S9 hS.1, al_S10 hS.1, al_S11 hS.1, al_S12 hS.1, rd_S1 hS.1, rd_S2 hS.1, rd_S3 hS.1, rd_S4 hS.1, rd_S5 hS.1, rd_S6 hS.1, rd_S7 hS.1, rd_S8 hS.1, rd_S9 hS.1, rd_S10 hS.1, rd_S11 hS.1, rd_S12 hS.1, vS_0 hS, vS_1 hS, vS_2 hS, vS_3 hS, vS_4 hS, vS_5 hS, vS_6 hS, vS_7 hS, vS_8 hS, vS_9 hS, vS_10 hS, vS_11 hS, vS_12 hS, gO_L hL.1, gR_L5 hL.1, al_L1 hL.1, rd_L1 hL.1, vL_0 hL, vL_1 hL, gO_T hT.1, gR_T3 hT.1, gR_T4 hT.1, gR_T5 hT.1, gR_T6 hT.1, al_T1 hT.1, al_T2 hT.1, al_T3 hT.1, al_T4 hT.1, rd_T1 hT.1, rd_T2 hT.1, rd_T3 hT.1, rd_T4 hT.1, vT_0 hT, vT_1 hT, vT_2 hT, vT_3 hT, vT_4 hT, hu, dk, Jl0, Jl1, Jl2, Jl3, Jl4, Jl5, Jl6, Jl7, Jl8, Jl9, Jl10, Jl11, Jl12, Jl13, Jl14, Jl15, Jl16, Jl17, Jl18, Jl19, Jl20, Jl22, Jl24, Jl28, Jl30, Jl31, Jl32, Jl35, Jl36, Jl37, Jl38, Jl39, Jl40, Jl48, Jl57, Jl59, Jl60, Jl61, Jl63, Jl64, Jl68, Jl69, Jl96, Jl97, Jl98, Jl99, Jl100, Jl122, Jl149, Jl150, Jl165, Jl255, Jl511, Jl512, Jl600, Jl610, Jl940, Jl968, Jl999, Jl1134, Jl1152, Jl2048, Jl4608, Jl9999, Jl99999, Jl100000, Jl147456, Jl12345, Jl1103515245, Jl100000000, Jlm1, Jlm2, J_add, J_sub, J_mul, J_lt, J_le, J_eq, J_ite, J_cl, ri_j, wi_j, b2i_z, b2i_o, b2i_zo, Int.cast_ofNat_Int, Int.natCast_zero, Int.natCast_one, if_true, if_false, ite_self, Int.le_refl, J_bit, J_or, J_neg, J_oN, Int.reduceEq, Int.reduceLT, Int.reduceLE, Int.reduceNeg, Int.reduceAdd, Int.reduceSub, Int.reduceMul, Int.reduceToNat, J_shl, J_shr, V_ite, true_or, or_true, nz_j, J_div, J_rem, Option.bind_some, Option.toList_some, Option.toList_none, List.cons_append, List.nil_append, Jl21, Jl23, Jl25, Jl74, Jl83, Jl288, Jl324, Jl1800, Jlm8]
        rw [s2]
        have LL := tele (fun i => ex PG E lo d 148 83 [some (.ref lo), some (.int (J (x))), some (.int (J (y))), some (.int (J (z))), some (.int (J (k))), some (.int (J (n))), some (.int (J ((D * 6)))), some (.int (J ((upS S k - S 5 k)))), some (.int (J ((owQ D (upS S k - S 5 k) i)))), some (.int (J (i)))] [] (mj μ2 I2)) (a := 0) (n := n) (fun i e1 e2 => by
          have ob := ow_b (due := D) (asl := upS S k - S 5 k) (n := i) db (by omega) (by omega)
          have es : owQ D (upS S k - S 5 k) (i + 1) = if 0 ≤ owQ D (upS S k - S 5 k) i + (6 * D - (upS S k - S 5 k)) then owQ D (upS S k - S 5 k) i + (6 * D - (upS S k - S 5 k)) else 0 := fo_s _ _ e1
          rw [b148_83, es]
          simp (disch := omega) only [b148_90, Jl0, Jl1, Jl2, Jl3, Jl4, Jl5, Jl6, Jl7, Jl8, Jl9, Jl10, Jl11, Jl12, Jl13, Jl14, Jl15, Jl16, Jl17, Jl18, Jl19, Jl20, Jl22, Jl24, Jl28, Jl30, Jl31, Jl32, Jl35, Jl36, Jl37, Jl38, Jl39, Jl40, Jl48, Jl57, Jl59, Jl60, Jl61, Jl63, Jl64, Jl68, Jl69, Jl96, Jl97, Jl98, Jl99, Jl100, Jl122, Jl149, Jl150, Jl165, Jl255, Jl511, Jl512, Jl600, Jl610, Jl940, Jl968, Jl999, Jl1134, Jl1152, Jl2048, Jl4608, Jl9999, Jl99999, Jl100000, Jl147456, Jl12345, Jl1103515245, Jl100000000, Jlm1, Jlm2, J_add, J_sub, J_mul, J_lt, J_le, J_eq, J_ite, J_cl, ri_j, wi_j, b2i_z, b2i_o, b2i_zo, Int.cast_ofNat_Int, Int.natCast_zero, Int.natCast_one, if_true, if_false, ite_self, Int.le_refl, J_bit, J_or, J_neg, J_oN, Int.reduceEq, Int.reduceLT, Int.reduceLE, Int.reduceNeg, Int.reduceAdd, Int.reduceSub, Int.reduceMul, Int.reduceToNat, J_shl, J_shr, V_ite, true_or, or_true, nz_j, J_div, J_rem, Option.bind_some, Option.toList_some, Option.toList_none, List.cons_append, List.nil_append, Jl21, Jl23, Jl25, Jl74, Jl83, Jl288, Jl324, Jl1800, Jlm8]
          rw [if_neg (by omega)]
          have em : owQ D (upS S k - S 5 k) i + D * 6 - (upS S k - S 5 k) = owQ D (upS S k - S 5 k) i + (6 * D - (upS S k - S 5 k)) := by omega
          rw [em]
          by_cases cc : 0 < owQ D (upS S k - S 5 k) i + (6 * D - (upS S k - S 5 k))
          · rw [if_pos cc, if_pos (by omega)]
          · rw [if_neg cc]
            by_cases c0 : 0 ≤ owQ D (upS S k - S 5 k) i + (6 * D - (upS S k - S 5 k))
            · rw [if_pos c0, show owQ D (upS S k - S 5 k) i + (6 * D - (upS S k - S 5 k)) = 0 by omega]
            · rw [if_neg c0]) (by omega)
        refine LL.trans ?_
        rw [b148_83]
        simp (disch := omega) only [b148_110, Jl0, Jl1, Jl2, Jl3, Jl4, Jl5, Jl6, Jl7, Jl8, Jl9, Jl10, Jl11, Jl12, Jl13, Jl14, Jl15, Jl16, Jl17, Jl18, Jl19, Jl20, Jl22, Jl24, Jl28, Jl30, Jl31, Jl32, Jl35, Jl36, Jl37, Jl38, Jl39, Jl40, Jl48, Jl57, Jl59, Jl60, Jl61, Jl63, Jl64, Jl68, Jl69, Jl96, Jl97, Jl98, Jl99, Jl100, Jl122, Jl149, Jl150, Jl165, Jl255, Jl511, Jl512, Jl600, Jl610, Jl940, Jl968, Jl999, Jl1134, Jl1152, Jl2048, Jl4608, Jl9999, Jl99999, Jl100000, Jl147456, Jl12345, Jl1103515245, Jl100000000, Jlm1, Jlm2, J_add, J_sub, J_mul, J_lt, J_le, J_eq, J_ite, J_cl, ri_j, wi_j, b2i_z, b2i_o, b2i_zo, Int.cast_ofNat_Int, Int.natCast_zero, Int.natCast_one, if_true, if_false, ite_self, Int.le_refl, J_bit, J_or, J_neg, J_oN, Int.reduceEq, Int.reduceLT, Int.reduceLE, Int.reduceNeg, Int.reduceAdd, Int.reduceSub, Int.reduceMul, Int.reduceToNat, J_shl, J_shr, V_ite, true_or, or_true, nz_j, J_div, J_rem, Option.bind_some, Option.toList_some, Option.toList_none, List.cons_append, List.nil_append, Jl21, Jl23, Jl25, Jl74, Jl83, Jl288, Jl324, Jl1800, Jlm8]
      · rw [if_neg (fun q => c3 (o3b_c q.1))]
        obtain ⟨I2, o1, o3⟩ := iop_n (E := E) (d := d) (by omega) hC hK.2.1 ⟨hx.1, hx.2.1, hx.2.2.1⟩ c3
        refine ⟨μ, I2, ?_, o3⟩
        simp (disch := omega) only [b148_0, b148_5, b148_12, b148_19, b148_22, b148_29, b148_32, e148, gO_k hO, gR_k f0, gR_k f1, gR_k f2, gR_k f3, gR_k f4, gR_k f5, gR_k f6, gR_k f7, gR_k f8, gO_D hD, gR_D0 hD, gR_D4 hD, gR_D5 hD, gR_D6 hD, gR_D7 hD, gR_D8 hD, al_D1 hD, al_D2 hD, al_D3 hD, al_D4 hD, al_D5 hD, al_D6 hD, rd_D1 hD, rd_D2 hD, rd_D3 hD, rd_D4 hD, rd_D5 hD, rd_D6 hD, hil, o1, b2i_t, Jl0, Jl1, Jl2, Jl3, Jl4, Jl5, Jl6, Jl7, Jl8, Jl9, Jl10, Jl11, Jl12, Jl13, Jl14, Jl15, Jl16, Jl17, Jl18, Jl19, Jl20, Jl22, Jl24, Jl28, Jl30, Jl31, Jl32, Jl35, Jl36, Jl37, Jl38, Jl39, Jl40, Jl48, Jl57, Jl59, Jl60, Jl61, Jl63, Jl64, Jl68, Jl69, Jl96, Jl97, Jl98, Jl99, Jl100, Jl122, Jl149, Jl150, Jl165, Jl255, Jl511, Jl512, Jl600, Jl610, Jl940, Jl968, Jl999, Jl1134, Jl1152, Jl2048, Jl4608, Jl9999, Jl99999, Jl100000, Jl147456, Jl12345, Jl1103515245, Jl100000000, Jlm1, Jlm2, J_add, J_sub, J_mul, J_lt, J_le, J_eq, J_ite, J_cl, ri_j, wi_j, b2i_z, b2i_o, b2i_zo, Int.cast_ofNat_Int, Int.natCast_zero, Int.natCast_one, if_true, if_false, ite_self, Int.le_refl, J_bit, J_or, J_neg, J_oN, Int.reduceEq, Int.reduceLT, Int.reduceLE, Int.reduceNeg, Int.reduceAdd, Int.reduceSub, Int.reduceMul, Int.reduceToNat, J_shl, J_shr, V_ite, true_or, or_true, nz_j, J_div, J_rem, Option.bind_some, Option.toList_some, Option.toList_none, List.cons_append, List.nil_append, Jl21, Jl23, Jl25, Jl74, Jl83, Jl288, Jl324, Jl1800, Jlm8]
        repeat (first | rw [if_neg (by omega)] | rw [if_pos (by omega)])
    · rw [if_neg (fun q => ck ⟨(o3b_c q.1).1, q.2.1⟩)]
      rw [decide_eq_false ck] at hil
      refine ⟨μ, I, ?_, FQ.r⟩
      simp (disch := omega) only [b148_0, b148_5, b148_12, b148_19, b148_32, e148, gO_k hO, gR_k f0, gR_k f1, gR_k f2, gR_k f3, gR_k f4, gR_k f5, gR_k f6, gR_k f7, gR_k f8, gO_D hD, gR_D0 hD, gR_D4 hD, gR_D5 hD, gR_D6 hD, gR_D7 hD, gR_D8 hD, al_D1 hD, al_D2 hD, al_D3 hD, al_D4 hD, al_D5 hD, al_D6 hD, rd_D1 hD, rd_D2 hD, rd_D3 hD, rd_D4 hD, rd_D5 hD, rd_D6 hD, hil, b2i_f, Jl0, Jl1, Jl2, Jl3, Jl4, Jl5, Jl6, Jl7, Jl8, Jl9, Jl10, Jl11, Jl12, Jl13, Jl14, Jl15, Jl16, Jl17, Jl18, Jl19, Jl20, Jl22, Jl24, Jl28, Jl30, Jl31, Jl32, Jl35, Jl36, Jl37, Jl38, Jl39, Jl40, Jl48, Jl57, Jl59, Jl60, Jl61, Jl63, Jl64, Jl68, Jl69, Jl96, Jl97, Jl98, Jl99, Jl100, Jl122, Jl149, Jl150, Jl165, Jl255, Jl511, Jl512, Jl600, Jl610, Jl940, Jl968, Jl999, Jl1134, Jl1152, Jl2048, Jl4608, Jl9999, Jl99999, Jl100000, Jl147456, Jl12345, Jl1103515245, Jl100000000, Jlm1, Jlm2, J_add, J_sub, J_mul, J_lt, J_le, J_eq, J_ite, J_cl, ri_j, wi_j, b2i_z, b2i_o, b2i_zo, Int.cast_ofNat_Int, Int.natCast_zero, Int.natCast_one, if_true, if_false, ite_self, Int.le_refl, J_bit, J_or, J_neg, J_oN, Int.reduceEq, Int.reduceLT, Int.reduceLE, Int.reduceNeg, Int.reduceAdd, Int.reduceSub, Int.reduceMul, Int.reduceToNat, J_shl, J_shr, V_ite, true_or, or_true, nz_j, J_div, J_rem, Option.bind_some, Option.toList_some, Option.toList_none, List.cons_append, List.nil_append, Jl21, Jl23, Jl25, Jl74, Jl83, Jl288, Jl324, Jl1800, Jlm8]
      repeat (first | rw [if_neg (by omega)] | rw [if_pos (by omega)])
  · rw [if_neg (fun q => cn q.2.2)]
    refine ⟨μ, I, ?_, FQ.r⟩
    by_cases n0 : n < 0
    · simp (disch := omega) only [b148_0, b148_32, e148, Jl0, Jl1, Jl2, Jl3, Jl4, Jl5, Jl6, Jl7, Jl8, Jl9, Jl10, Jl11, Jl12, Jl13, Jl14, Jl15, Jl16, Jl17, Jl18, Jl19, Jl20, Jl22, Jl24, Jl28, Jl30, Jl31, Jl32, Jl35, Jl36, Jl37, Jl38, Jl39, Jl40, Jl48, Jl57, Jl59, Jl60, Jl61, Jl63, Jl64, Jl68, Jl69, Jl96, Jl97, Jl98, Jl99, Jl100, Jl122, Jl149, Jl150, Jl165, Jl255, Jl511, Jl512, Jl600, Jl610, Jl940, Jl968, Jl999, Jl1134, Jl1152, Jl2048, Jl4608, Jl9999, Jl99999, Jl100000, Jl147456, Jl12345, Jl1103515245, Jl100000000, Jlm1, Jlm2, J_add, J_sub, J_mul, J_lt, J_le, J_eq, J_ite, J_cl, ri_j, wi_j, b2i_z, b2i_o, b2i_zo, Int.cast_ofNat_Int, Int.natCast_zero, Int.natCast_one, if_true, if_false, ite_self, Int.le_refl, J_bit, J_or, J_neg, J_oN, Int.reduceEq, Int.reduceLT, Int.reduceLE, Int.reduceNeg, Int.reduceAdd, Int.reduceSub, Int.reduceMul, Int.reduceToNat, J_shl, J_shr, V_ite, true_or, or_true, nz_j, J_div, J_rem, Option.bind_some, Option.toList_some, Option.toList_none, List.cons_append, List.nil_append, Jl21, Jl23, Jl25, Jl74, Jl83, Jl288, Jl324, Jl1800, Jlm8]
      repeat (first | rw [if_neg (by omega)] | rw [if_pos (by omega)])
    · simp (disch := omega) only [b148_0, b148_5, b148_32, e148, Jl0, Jl1, Jl2, Jl3, Jl4, Jl5, Jl6, Jl7, Jl8, Jl9, Jl10, Jl11, Jl12, Jl13, Jl14, Jl15, Jl16, Jl17, Jl18, Jl19, Jl20, Jl22, Jl24, Jl28, Jl30, Jl31, Jl32, Jl35, Jl36, Jl37, Jl38, Jl39, Jl40, Jl48, Jl57, Jl59, Jl60, Jl61, Jl63, Jl64, Jl68, Jl69, Jl96, Jl97, Jl98, Jl99, Jl100, Jl122, Jl149, Jl150, Jl165, Jl255, Jl511, Jl512, Jl600, Jl610, Jl940, Jl968, Jl999, Jl1134, Jl1152, Jl2048, Jl4608, Jl9999, Jl99999, Jl100000, Jl147456, Jl12345, Jl1103515245, Jl100000000, Jlm1, Jlm2, J_add, J_sub, J_mul, J_lt, J_le, J_eq, J_ite, J_cl, ri_j, wi_j, b2i_z, b2i_o, b2i_zo, Int.cast_ofNat_Int, Int.natCast_zero, Int.natCast_one, if_true, if_false, ite_self, Int.le_refl, J_bit, J_or, J_neg, J_oN, Int.reduceEq, Int.reduceLT, Int.reduceLE, Int.reduceNeg, Int.reduceAdd, Int.reduceSub, Int.reduceMul, Int.reduceToNat, J_shl, J_shr, V_ite, true_or, or_true, nz_j, J_div, J_rem, Option.bind_some, Option.toList_some, Option.toList_none, List.cons_append, List.nil_append, Jl21, Jl23, Jl25, Jl74, Jl83, Jl288, Jl324, Jl1800, Jlm8]
      repeat (first | rw [if_neg (by omega)] | rw [if_pos (by omega)])
theorem c_share (hd : 8 ≤ d) (hK : CK μ I lo) (hx : i32 x ∧ i32 y ∧ i32 z ∧ i32 h) (eS : S = rws I (lo + 8 + 20 * x.toNat)) (eL : L = rws I (lo + 21 + 20 * y.toNat)) (eR : R = rws I (lo + 23 + 20 * z.toNat)) (eT : T = wlS S R (rws I (lo + 74)) 40) : CQ lo μ I (if o3b I lo x y z = true ∧ (0 ≤ h ∧ h < S 0 0) then frQ (sm (fun k => if S 3 k = h then dueT S L T (rdN S (siS S) T) k else 0) (S 0 3)) (sm (dueT S L T (rdN S (siS S) T)) (S 0 3)) b else -1) (cl E lo d 155 [.ref lo, .int (J (x)), .int (J (y)), .int (J (z)), .int (J (h)), .int (J ((b2i b)))] (mj μ I)) := by
  obtain ⟨d, rfl⟩ : ∃ e, d = e + 1 := ⟨d - 1, by omega⟩
  have hx' := hx
  unfold i32 at hx'
  have hC := hK.1
  obtain ⟨hO, f0, f1, f2, f3, f4, f5, f6, f7, f8, hD⟩ := CO.o hC
  have hil := iho_sp (E := E) (lo := lo) (d := d) (I := I) (x := x) (k := h) (by omega) hC (hK.2.1.1 0 (by omega) (by omega)) (hK.2.1.2.1 x) ⟨hx.1, hx.2.2.2⟩
  rw [← eS] at hil
  by_cases ck : (0 ≤ x ∧ x < I (lo + 1 + 2) 0) ∧ 0 ≤ h ∧ h < S 0 0
  · rw [decide_eq_true ck] at hil
    by_cases c3 : o3c I lo x y z
    · rw [if_pos ⟨o3b_y c3, ck.2⟩]
      obtain ⟨μ2, I2, o1, o2, o3, hV5, hLV, hRV, hTV, hTZ⟩ := iop (E := E) (d := d) (by omega) hK ⟨hx.1, hx.2.1, hx.2.2.1⟩ eS eL eR eT c3
      refine ⟨μ2, I2, ?_, o3⟩
      have hC2 := o3.C hC
      have v := hV5.1.1
      have hdh := dh_sp (E := E) (lo := lo) (d := d) (h := h) (by omega) o2.1 (by omega) (by omega)
      have hda := da_sp (E := E) (lo := lo) (d := d) (by omega) o2.1 (by omega)
      have e1 : sm (fun k => if S 3 k = h then I2 (lo + 84 + 16) k else 0) (S 0 3) = sm (fun k => if S 3 k = h then dueT S L T (rdN S (siS S) T) k else 0) (S 0 3) := sm_congr _ _ (fun i a b => by rw [o2.2.2.2 i a b])
      rw [e1] at hdh
      rw [o2.du] at hda
      have b1 := sm_b (fun k => if S 3 k = h then dueT S L T (rdN S (siS S) T) k else 0) (n := S 0 3) (A := 0) (B := 999) (by omega) (fun i a b => by have := o2.db hTV ⟨a, b⟩; split <;> omega)
      have b2 := sm_b (dueT S L T (rdN S (siS S) T)) (n := S 0 3) (A := 0) (B := 999) (by omega) (fun i a b => o2.db hTV ⟨a, b⟩)
      have hlt := lt_sp (E := E) (lo := lo) (d := d) (μ := mj μ2 I2) (p := sm (fun k => if S 3 k = h then dueT S L T (rdN S (siS S) T) k else 0) (S 0 3)) (q := sm (dueT S L T (rdN S (siS S) T)) (S 0 3)) (u := b) (by omega) (by omega) (by omega)
      have s1 : cl E lo (d + 1) 155 [.ref lo, .int (J x), .int (J y), .int (J z), .int (J h), .int (J (b2i b))] (mj μ I) = ex PG E lo d 155 22 [some (.ref lo), some (.int (J (x))), some (.int (J (y))), some (.int (J (z))), some (.int (J (h))), some (.int (J ((b2i b))))] [] (mj μ2 I2) := by
        simp (disch := omega) only [b155_0, b155_7, b155_10, b155_17, e155, gO_k hO, gR_k f0, gR_k f1, gR_k f2, gR_k f3, gR_k f4, gR_k f5, gR_k f6, gR_k f7, gR_k f8, gO_D hD, gR_D0 hD, gR_D4 hD, gR_D5 hD, gR_D6 hD, gR_D7 hD, gR_D8 hD, al_D1 hD, al_D2 hD, al_D3 hD, al_D4 hD, al_D5 hD, al_D6 hD, rd_D1 hD, rd_D2 hD, rd_D3 hD, rd_D4 hD, rd_D5 hD, rd_D6 hD, hil, o1, b2i_t, Jl0, Jl1, Jl2, Jl3, Jl4, Jl5, Jl6, Jl7, Jl8, Jl9, Jl10, Jl11, Jl12, Jl13, Jl14, Jl15, Jl16, Jl17, Jl18, Jl19, Jl20, Jl22, Jl24, Jl28, Jl30, Jl31, Jl32, Jl35, Jl36, Jl37, Jl38, Jl39, Jl40, Jl48, Jl57, Jl59, Jl60, Jl61, Jl63, Jl64, Jl68, Jl69, Jl96, Jl97, Jl98, Jl99, Jl100, Jl122, Jl149, Jl150, Jl165, Jl255, Jl511, Jl512, Jl600, Jl610, Jl940, Jl968, Jl999, Jl1134, Jl1152, Jl2048, Jl4608, Jl9999, Jl99999, Jl100000, Jl147456, Jl12345, Jl1103515245, Jl100000000, Jlm1, Jlm2, J_add, J_sub, J_mul, J_lt, J_le, J_eq, J_ite, J_cl, ri_j, wi_j, b2i_z, b2i_o, b2i_zo, Int.cast_ofNat_Int, Int.natCast_zero, Int.natCast_one, if_true, if_false, ite_self, Int.le_refl, J_bit, J_or, J_neg, J_oN, Int.reduceEq, Int.reduceLT, Int.reduceLE, Int.reduceNeg, Int.reduceAdd, Int.reduceSub, Int.reduceMul, Int.reduceToNat, J_shl, J_shr, V_ite, true_or, or_true, nz_j, J_div, J_rem, Option.bind_some, Option.toList_some, Option.toList_none, List.cons_append, List.nil_append, Jl21, Jl23, Jl25, Jl74, Jl83, Jl288, Jl324, Jl1800, Jlm8]
      rw [s1]
      have hNi := o2.1.1
      obtain ⟨hO, f0, f1, f2, f3, f4, f5, f6, f7, f8, hD⟩ := CO.o hC2
      simp (disch := omega) only [b155_22, b155_31, b155_38, b155_43, gO_k hO, gR_k f0, gR_k f1, gR_k f2, gR_k f3, gR_k f4, gR_k f5, gR_k f6, gR_k f7, gR_k f8, gO_D hD, gR_D0 hD, gR_D4 hD, gR_D5 hD, gR_D6 hD, gR_D7 hD, gR_D8 hD, al_D1 hD, al_D2 hD, al_D3 hD, al_D4 hD, al_D5 hD, al_D6 hD, rd_D1 hD, rd_D2 hD, rd_D3 hD, rd_D4 hD, rd_D5 hD, rd_D6 hD, gO_N hNi, gR_N3 hNi, gR_N4 hNi, gR_N5 hNi, gR_N6 hNi, al_N14 hNi, al_N15 hNi, al_N16 hNi, al_N17 hNi, rd_N14 hNi, rd_N15 hNi, rd_N16 hNi, rd_N17 hNi, hdh, hda, hlt, Jl0, Jl1, Jl2, Jl3, Jl4, Jl5, Jl6, Jl7, Jl8, Jl9, Jl10, Jl11, Jl12, Jl13, Jl14, Jl15, Jl16, Jl17, Jl18, Jl19, Jl20, Jl22, Jl24, Jl28, Jl30, Jl31, Jl32, Jl35, Jl36, Jl37, Jl38, Jl39, Jl40, Jl48, Jl57, Jl59, Jl60, Jl61, Jl63, Jl64, Jl68, Jl69, Jl96, Jl97, Jl98, Jl99, Jl100, Jl122, Jl149, Jl150, Jl165, Jl255, Jl511, Jl512, Jl600, Jl610, Jl940, Jl968, Jl999, Jl1134, Jl1152, Jl2048, Jl4608, Jl9999, Jl99999, Jl100000, Jl147456, Jl12345, Jl1103515245, Jl100000000, Jlm1, Jlm2, J_add, J_sub, J_mul, J_lt, J_le, J_eq, J_ite, J_cl, ri_j, wi_j, b2i_z, b2i_o, b2i_zo, Int.cast_ofNat_Int, Int.natCast_zero, Int.natCast_one, if_true, if_false, ite_self, Int.le_refl, J_bit, J_or, J_neg, J_oN, Int.reduceEq, Int.reduceLT, Int.reduceLE, Int.reduceNeg, Int.reduceAdd, Int.reduceSub, Int.reduceMul, Int.reduceToNat, J_shl, J_shr, V_ite, true_or, or_true, nz_j, J_div, J_rem, Option.bind_some, Option.toList_some, Option.toList_none, List.cons_append, List.nil_append, Jl21, Jl23, Jl25, Jl74, Jl83, Jl288, Jl324, Jl1800, Jlm8]
    · rw [if_neg (fun q => c3 (o3b_c q.1))]
      obtain ⟨I2, o1, o3⟩ := iop_n (E := E) (d := d) (by omega) hC hK.2.1 ⟨hx.1, hx.2.1, hx.2.2.1⟩ c3
      refine ⟨μ, I2, ?_, o3⟩
      simp (disch := omega) only [b155_0, b155_7, b155_10, b155_17, b155_20, e155, gO_k hO, gR_k f0, gR_k f1, gR_k f2, gR_k f3, gR_k f4, gR_k f5, gR_k f6, gR_k f7, gR_k f8, gO_D hD, gR_D0 hD, gR_D4 hD, gR_D5 hD, gR_D6 hD, gR_D7 hD, gR_D8 hD, al_D1 hD, al_D2 hD, al_D3 hD, al_D4 hD, al_D5 hD, al_D6 hD, rd_D1 hD, rd_D2 hD, rd_D3 hD, rd_D4 hD, rd_D5 hD, rd_D6 hD, hil, o1, b2i_t, Jl0, Jl1, Jl2, Jl3, Jl4, Jl5, Jl6, Jl7, Jl8, Jl9, Jl10, Jl11, Jl12, Jl13, Jl14, Jl15, Jl16, Jl17, Jl18, Jl19, Jl20, Jl22, Jl24, Jl28, Jl30, Jl31, Jl32, Jl35, Jl36, Jl37, Jl38, Jl39, Jl40, Jl48, Jl57, Jl59, Jl60, Jl61, Jl63, Jl64, Jl68, Jl69, Jl96, Jl97, Jl98, Jl99, Jl100, Jl122, Jl149, Jl150, Jl165, Jl255, Jl511, Jl512, Jl600, Jl610, Jl940, Jl968, Jl999, Jl1134, Jl1152, Jl2048, Jl4608, Jl9999, Jl99999, Jl100000, Jl147456, Jl12345, Jl1103515245, Jl100000000, Jlm1, Jlm2, J_add, J_sub, J_mul, J_lt, J_le, J_eq, J_ite, J_cl, ri_j, wi_j, b2i_z, b2i_o, b2i_zo, Int.cast_ofNat_Int, Int.natCast_zero, Int.natCast_one, if_true, if_false, ite_self, Int.le_refl, J_bit, J_or, J_neg, J_oN, Int.reduceEq, Int.reduceLT, Int.reduceLE, Int.reduceNeg, Int.reduceAdd, Int.reduceSub, Int.reduceMul, Int.reduceToNat, J_shl, J_shr, V_ite, true_or, or_true, nz_j, J_div, J_rem, Option.bind_some, Option.toList_some, Option.toList_none, List.cons_append, List.nil_append, Jl21, Jl23, Jl25, Jl74, Jl83, Jl288, Jl324, Jl1800, Jlm8]
  · rw [if_neg (fun q => ck ⟨(o3b_c q.1).1, q.2⟩)]
    rw [decide_eq_false ck] at hil
    refine ⟨μ, I, ?_, FQ.r⟩
    simp (disch := omega) only [b155_0, b155_7, b155_20, e155, gO_k hO, gR_k f0, gR_k f1, gR_k f2, gR_k f3, gR_k f4, gR_k f5, gR_k f6, gR_k f7, gR_k f8, gO_D hD, gR_D0 hD, gR_D4 hD, gR_D5 hD, gR_D6 hD, gR_D7 hD, gR_D8 hD, al_D1 hD, al_D2 hD, al_D3 hD, al_D4 hD, al_D5 hD, al_D6 hD, rd_D1 hD, rd_D2 hD, rd_D3 hD, rd_D4 hD, rd_D5 hD, rd_D6 hD, hil, b2i_f, Jl0, Jl1, Jl2, Jl3, Jl4, Jl5, Jl6, Jl7, Jl8, Jl9, Jl10, Jl11, Jl12, Jl13, Jl14, Jl15, Jl16, Jl17, Jl18, Jl19, Jl20, Jl22, Jl24, Jl28, Jl30, Jl31, Jl32, Jl35, Jl36, Jl37, Jl38, Jl39, Jl40, Jl48, Jl57, Jl59, Jl60, Jl61, Jl63, Jl64, Jl68, Jl69, Jl96, Jl97, Jl98, Jl99, Jl100, Jl122, Jl149, Jl150, Jl165, Jl255, Jl511, Jl512, Jl600, Jl610, Jl940, Jl968, Jl999, Jl1134, Jl1152, Jl2048, Jl4608, Jl9999, Jl99999, Jl100000, Jl147456, Jl12345, Jl1103515245, Jl100000000, Jlm1, Jlm2, J_add, J_sub, J_mul, J_lt, J_le, J_eq, J_ite, J_cl, ri_j, wi_j, b2i_z, b2i_o, b2i_zo, Int.cast_ofNat_Int, Int.natCast_zero, Int.natCast_one, if_true, if_false, ite_self, Int.le_refl, J_bit, J_or, J_neg, J_oN, Int.reduceEq, Int.reduceLT, Int.reduceLE, Int.reduceNeg, Int.reduceAdd, Int.reduceSub, Int.reduceMul, Int.reduceToNat, J_shl, J_shr, V_ite, true_or, or_true, nz_j, J_div, J_rem, Option.bind_some, Option.toList_some, Option.toList_none, List.cons_append, List.nil_append, Jl21, Jl23, Jl25, Jl74, Jl83, Jl288, Jl324, Jl1800, Jlm8]
theorem c_odds (hd : 8 ≤ d) (hK : CK μ I lo) (hx : i32 x ∧ i32 y ∧ i32 k) (eS : S = rws I (lo + 8 + 20 * x.toNat)) (eL : L = rws I (lo + 21 + 20 * y.toNat)) : CQ lo μ I (if (0 ≤ x ∧ x < I (lo + 1 + 2) 0) ∧ (0 ≤ y ∧ y < I (lo + 1 + 2) 1) ∧ (0 ≤ k ∧ k < S 0 3) then frQ (odQ S L k) (upS S k - S 5 k) b else -1) (cl E lo d 149 [.ref lo, .int (J (x)), .int (J (y)), .int (J (k)), .int (J ((b2i b)))] (mj μ I)) := by
  obtain ⟨d, rfl⟩ : ∃ e, d = e + 1 := ⟨d - 1, by omega⟩
  have hx' := hx
  unfold i32 at hx'
  have hC := hK.1
  obtain ⟨hO, f0, f1, f2, f3, f4, f5, f6, f7, f8, hD⟩ := CO.o hC
  have hil := isl_sp (E := E) (lo := lo) (d := d) (I := I) (x := x) (k := k) (by omega) hC (hK.2.1.1 0 (by omega) (by omega)) (hK.2.1.2.1 x) ⟨hx.1, hx.2.2⟩
  rw [← eS] at hil
  by_cases ck : (0 ≤ x ∧ x < I (lo + 1 + 2) 0) ∧ 0 ≤ k ∧ k < S 0 3
  · rw [decide_eq_true ck] at hil
    by_cases cy : 0 ≤ y ∧ y < I (lo + 1 + 2) 1
    · rw [if_pos ⟨ck.1, cy, ck.2⟩]
      obtain ⟨μ2, I2, o1, o2, o3, hV5, hLV⟩ := ios (E := E) (d := d) (by omega) hK ⟨hx.1, hx.2.1⟩ eS eL ⟨ck.1, cy⟩
      refine ⟨μ2, I2, ?_, o3⟩
      have hC2 := o3.C hC
      have v := hV5.1.1
      have hca := ca_sp (E := E) (lo := lo) (d := d) (k := k) (by omega) o2.1 (by omega) ck.2
      have e1 : sm (fun u => if rdS S (I2 (lo + 84 + 14)) (I2 (lo + 84 + 15)) k u = -1 then 0 else chS L (rdS S (I2 (lo + 84 + 14)) (I2 (lo + 84 + 15)) k u) u (S 3 k) (poS S k u)) 36 = odQ S L k := sm_congr _ _ (fun i a b => by rw [o2.rds hK.2.2.2.1 ck.2 ⟨a, b⟩])
      rw [e1] at hca
      have b1 := odQ_b (k := k) hV5.1 hLV ck.2
      have s1 : cl E lo (d + 1) 149 [.ref lo, .int (J x), .int (J y), .int (J k), .int (J (b2i b))] (mj μ I) = ex PG E lo d 149 20 [some (.ref lo), some (.int (J (x))), some (.int (J (y))), some (.int (J (k))), some (.int (J ((b2i b)))), none, none] [] (mj μ2 I2) := by
        simp (disch := omega) only [b149_0, b149_6, b149_9, b149_15, e149, gO_k hO, gR_k f0, gR_k f1, gR_k f2, gR_k f3, gR_k f4, gR_k f5, gR_k f6, gR_k f7, gR_k f8, gO_D hD, gR_D0 hD, gR_D4 hD, gR_D5 hD, gR_D6 hD, gR_D7 hD, gR_D8 hD, al_D1 hD, al_D2 hD, al_D3 hD, al_D4 hD, al_D5 hD, al_D6 hD, rd_D1 hD, rd_D2 hD, rd_D3 hD, rd_D4 hD, rd_D5 hD, rd_D6 hD, hil, o1, b2i_t, Jl0, Jl1, Jl2, Jl3, Jl4, Jl5, Jl6, Jl7, Jl8, Jl9, Jl10, Jl11, Jl12, Jl13, Jl14, Jl15, Jl16, Jl17, Jl18, Jl19, Jl20, Jl22, Jl24, Jl28, Jl30, Jl31, Jl32, Jl35, Jl36, Jl37, Jl38, Jl39, Jl40, Jl48, Jl57, Jl59, Jl60, Jl61, Jl63, Jl64, Jl68, Jl69, Jl96, Jl97, Jl98, Jl99, Jl100, Jl122, Jl149, Jl150, Jl165, Jl255, Jl511, Jl512, Jl600, Jl610, Jl940, Jl968, Jl999, Jl1134, Jl1152, Jl2048, Jl4608, Jl9999, Jl99999, Jl100000, Jl147456, Jl12345, Jl1103515245, Jl100000000, Jlm1, Jlm2, J_add, J_sub, J_mul, J_lt, J_le, J_eq, J_ite, J_cl, ri_j, wi_j, b2i_z, b2i_o, b2i_zo, Int.cast_ofNat_Int, Int.natCast_zero, Int.natCast_one, if_true, if_false, ite_self, Int.le_refl, J_bit, J_or, J_neg, J_oN, Int.reduceEq, Int.reduceLT, Int.reduceLE, Int.reduceNeg, Int.reduceAdd, Int.reduceSub, Int.reduceMul, Int.reduceToNat, J_shl, J_shr, V_ite, true_or, or_true, nz_j, J_div, J_rem, Option.bind_some, Option.toList_some, Option.toList_none, List.cons_append, List.nil_append, Jl21, Jl23, Jl25, Jl74, Jl83, Jl288, Jl324, Jl1800, Jlm8]
      rw [s1]
      have hNC := o2.1
      obtain ⟨hN, h0, h1, h2, hS, hV, hL, hLV, hT, hTV, hA, hD, hI⟩ := id hNC
      have hl : lo ≤ lo + 84 := by omega
      clear hD
      have hu := up_sp (E := E) (lo := lo) (d := d) (by omega) hS hV ck.2
      have ub := upS_b hV ck.2
      have ur := upS_r hV ck.2
      have vk := hV.2.2.1 k ck.2.1 ck.2.2
      have hlt := lt_sp (E := E) (lo := lo) (d := d) (μ := mj μ2 I2) (p := odQ S L k) (q := upS S k - S 5 k) (u := b) (by omega) (by omega) (by omega)
      obtain ⟨hO, f0, f1, f2, f3, f4, f5, f6, f7, f8, hD⟩ := CO.o hC2
      simp (disch := omega) only [b149_20, b149_28, b149_41, b149_65, gO_k hO, gR_k f0, gR_k f1, gR_k f2, gR_k f3, gR_k f4, gR_k f5, gR_k f6, gR_k f7, gR_k f8, gO_D hD, gR_D0 hD, gR_D4 hD, gR_D5 hD, gR_D6 hD, gR_D7 hD, gR_D8 hD, al_D1 hD, al_D2 hD, al_D3 hD, al_D4 hD, al_D5 hD, al_D6 hD, rd_D1 hD, rd_D2 hD, rd_D3 hD, rd_D4 hD, rd_D5 hD, rd_D6 hD, gO_N hN, gR_N3 hN, gR_N4 hN, gR_N5 hN, gR_N6 hN, al_N14 hN, al_N15 hN, al_N16 hN, al_N17 hN, rd_N14 hN, rd_N15 hN, rd_N16 hN, rd_N17 hN, gP_N hN hl, wr_N14 hN hl, wr_N15 hN hl, wr_N16 hN hl, wr_N17 hN hl, gR_k h0, gR_k h1, gR_k h2, gO_S hS.1, gR_S2 hS.1, gR_S4 hS.1, gR_S5 hS.1, gR_S6 hS.1, gR_S7 hS.1, gR_S8 hS.1, gR_S9 hS.1, gR_S10 hS.1, gR_S11 hS.1, gR_S12 hS.1, gR_S14 hS.1, gR_S15 hS.1, al_S1 hS.1, al_S2 hS.1, al_S3 hS.1, al_S4 hS.1, al_S5 hS.1, al_S6 hS.1, al_S7 hS.1, al_S8 hS.1, al_S9 hS.1, al_S10 hS.1, al_S11 hS.1, al_S12 hS.1, rd_S1 hS.1, rd_S2 hS.1, rd_S3 hS.1, rd_S4 hS.1, rd_S5 hS.1, rd_S6 hS.1, rd_S7 hS.1, rd_S8 hS.1, rd_S9 hS.1, rd_S10 hS.1, rd_S11 hS.1, rd_S12 hS.1, vS_0 hS, vS_1 hS, vS_2 hS, vS_3 hS, vS_4 hS, vS_5 hS, vS_6 hS, vS_7 hS, vS_8 hS, vS_9 hS, vS_10 hS, vS_11 hS, vS_12 hS, gO_L hL.1, gR_L5 hL.1, al_L1 hL.1, rd_L1 hL.1, vL_0 hL, vL_1 hL, gO_T hT.1, gR_T3 hT.1, gR_T4 hT.1, gR_T5 hT.1, gR_T6 hT.1, al_T1 hT.1, al_T2 hT.1, al_T3 hT.1, al_T4 hT.1, rd_T1 hT.1, rd_T2 hT.1, rd_T3 hT.1, rd_T4 hT.1, vT_0 hT, vT_1 hT, vT_2 hT, vT_3 hT, vT_4 hT, hca, hu, hlt, Jl0, Jl1, Jl2, Jl3, Jl4, Jl5, Jl6, Jl7, Jl8, Jl9, Jl10, Jl11, Jl12, Jl13, Jl14, Jl15, Jl16, Jl17, Jl18, Jl19, Jl20, Jl22, Jl24, Jl28, Jl30, Jl31, Jl32, Jl35, Jl36, Jl37, Jl38, Jl39, Jl40, Jl48, Jl57, Jl59, Jl60, Jl61, Jl63, Jl64, Jl68, Jl69, Jl96, Jl97, Jl98, Jl99, Jl100, Jl122, Jl149, Jl150, Jl165, Jl255, Jl511, Jl512, Jl600, Jl610, Jl940, Jl968, Jl999, Jl1134, Jl1152, Jl2048, Jl4608, Jl9999, Jl99999, Jl100000, Jl147456, Jl12345, Jl1103515245, Jl100000000, Jlm1, Jlm2, J_add, J_sub, J_mul, J_lt, J_le, J_eq, J_ite, J_cl, ri_j, wi_j, b2i_z, b2i_o, b2i_zo, Int.cast_ofNat_Int, Int.natCast_zero, Int.natCast_one, if_true, if_false, ite_self, Int.le_refl, J_bit, J_or, J_neg, J_oN, Int.reduceEq, Int.reduceLT, Int.reduceLE, Int.reduceNeg, Int.reduceAdd, Int.reduceSub, Int.reduceMul, Int.reduceToNat, J_shl, J_shr, V_ite, true_or, or_true, nz_j, J_div, J_rem, Option.bind_some, Option.toList_some, Option.toList_none, List.cons_append, List.nil_append, Jl21, Jl23, Jl25, Jl74, Jl83, Jl288, Jl324, Jl1800, Jlm8]
    · rw [if_neg (fun q => cy q.2.1)]
      have o1 := ios_n (E := E) (d := d) (x := x) (y := y) (by omega) hC hK.2.1 ⟨hx.1, hx.2.1⟩ (fun q => cy q.2)
      refine ⟨μ, I, ?_, FQ.r⟩
      simp (disch := omega) only [b149_0, b149_6, b149_9, b149_15, b149_18, e149, gO_k hO, gR_k f0, gR_k f1, gR_k f2, gR_k f3, gR_k f4, gR_k f5, gR_k f6, gR_k f7, gR_k f8, gO_D hD, gR_D0 hD, gR_D4 hD, gR_D5 hD, gR_D6 hD, gR_D7 hD, gR_D8 hD, al_D1 hD, al_D2 hD, al_D3 hD, al_D4 hD, al_D5 hD, al_D6 hD, rd_D1 hD, rd_D2 hD, rd_D3 hD, rd_D4 hD, rd_D5 hD, rd_D6 hD, hil, o1, b2i_t, Jl0, Jl1, Jl2, Jl3, Jl4, Jl5, Jl6, Jl7, Jl8, Jl9, Jl10, Jl11, Jl12, Jl13, Jl14, Jl15, Jl16, Jl17, Jl18, Jl19, Jl20, Jl22, Jl24, Jl28, Jl30, Jl31, Jl32, Jl35, Jl36, Jl37, Jl38, Jl39, Jl40, Jl48, Jl57, Jl59, Jl60, Jl61, Jl63, Jl64, Jl68, Jl69, Jl96, Jl97, Jl98, Jl99, Jl100, Jl122, Jl149, Jl150, Jl165, Jl255, Jl511, Jl512, Jl600, Jl610, Jl940, Jl968, Jl999, Jl1134, Jl1152, Jl2048, Jl4608, Jl9999, Jl99999, Jl100000, Jl147456, Jl12345, Jl1103515245, Jl100000000, Jlm1, Jlm2, J_add, J_sub, J_mul, J_lt, J_le, J_eq, J_ite, J_cl, ri_j, wi_j, b2i_z, b2i_o, b2i_zo, Int.cast_ofNat_Int, Int.natCast_zero, Int.natCast_one, if_true, if_false, ite_self, Int.le_refl, J_bit, J_or, J_neg, J_oN, Int.reduceEq, Int.reduceLT, Int.reduceLE, Int.reduceNeg, Int.reduceAdd, Int.reduceSub, Int.reduceMul, Int.reduceToNat, J_shl, J_shr, V_ite, true_or, or_true, nz_j, J_div, J_rem, Option.bind_some, Option.toList_some, Option.toList_none, List.cons_append, List.nil_append, Jl21, Jl23, Jl25, Jl74, Jl83, Jl288, Jl324, Jl1800, Jlm8]
  · rw [if_neg (fun q => ck ⟨q.1, q.2.2⟩)]
    rw [decide_eq_false ck] at hil
    refine ⟨μ, I, ?_, FQ.r⟩
    simp (disch := omega) only [b149_0, b149_6, b149_18, e149, gO_k hO, gR_k f0, gR_k f1, gR_k f2, gR_k f3, gR_k f4, gR_k f5, gR_k f6, gR_k f7, gR_k f8, gO_D hD, gR_D0 hD, gR_D4 hD, gR_D5 hD, gR_D6 hD, gR_D7 hD, gR_D8 hD, al_D1 hD, al_D2 hD, al_D3 hD, al_D4 hD, al_D5 hD, al_D6 hD, rd_D1 hD, rd_D2 hD, rd_D3 hD, rd_D4 hD, rd_D5 hD, rd_D6 hD, hil, b2i_f, Jl0, Jl1, Jl2, Jl3, Jl4, Jl5, Jl6, Jl7, Jl8, Jl9, Jl10, Jl11, Jl12, Jl13, Jl14, Jl15, Jl16, Jl17, Jl18, Jl19, Jl20, Jl22, Jl24, Jl28, Jl30, Jl31, Jl32, Jl35, Jl36, Jl37, Jl38, Jl39, Jl40, Jl48, Jl57, Jl59, Jl60, Jl61, Jl63, Jl64, Jl68, Jl69, Jl96, Jl97, Jl98, Jl99, Jl100, Jl122, Jl149, Jl150, Jl165, Jl255, Jl511, Jl512, Jl600, Jl610, Jl940, Jl968, Jl999, Jl1134, Jl1152, Jl2048, Jl4608, Jl9999, Jl99999, Jl100000, Jl147456, Jl12345, Jl1103515245, Jl100000000, Jlm1, Jlm2, J_add, J_sub, J_mul, J_lt, J_le, J_eq, J_ite, J_cl, ri_j, wi_j, b2i_z, b2i_o, b2i_zo, Int.cast_ofNat_Int, Int.natCast_zero, Int.natCast_one, if_true, if_false, ite_self, Int.le_refl, J_bit, J_or, J_neg, J_oN, Int.reduceEq, Int.reduceLT, Int.reduceLE, Int.reduceNeg, Int.reduceAdd, Int.reduceSub, Int.reduceMul, Int.reduceToNat, J_shl, J_shr, V_ite, true_or, or_true, nz_j, J_div, J_rem, Option.bind_some, Option.toList_some, Option.toList_none, List.cons_append, List.nil_append, Jl21, Jl23, Jl25, Jl74, Jl83, Jl288, Jl324, Jl1800, Jlm8]
theorem c_calm (hd : 8 ≤ d) (hK : CK μ I lo) (hx : i32 x ∧ i32 y) (eS : S = rws I (lo + 8 + 20 * x.toNat)) (eL : L = rws I (lo + 21 + 20 * y.toNat)) : CQ lo μ I (if (0 ≤ x ∧ x < I (lo + 1 + 2) 0) ∧ (0 ≤ y ∧ y < I (lo + 1 + 2) 1) then sm (fun u => b2i (!an (fun k => decide (L 0 0 < rdN S (siS S) tST k u)) (S 0 3))) 36 else -1) (cl E lo d 152 [.ref lo, .int (J (x)), .int (J (y))] (mj μ I)) := by
  obtain ⟨d, rfl⟩ : ∃ e, d = e + 1 := ⟨d - 1, by omega⟩
  have hx' := hx
  unfold i32 at hx'
  have hC := hK.1
  obtain ⟨hO, f0, f1, f2, f3, f4, f5, f6, f7, f8, hD⟩ := CO.o hC
  by_cases cy : (0 ≤ x ∧ x < I (lo + 1 + 2) 0) ∧ (0 ≤ y ∧ y < I (lo + 1 + 2) 1)
  · rw [if_pos cy]
    obtain ⟨μ2, I2, o1, o2, o3, hV5, hLV⟩ := ios (E := E) (d := d) (by omega) hK hx eS eL cy
    refine ⟨μ2, I2, ?_, o3⟩
    have hC2 := o3.C hC
    have v := hV5.1.1
    have s1 : cl E lo (d + 1) 152 [.ref lo, .int (J x), .int (J y)] (mj μ I) = ex PG E lo d 152 16 [some (.ref lo), some (.int (J (x))), some (.int (J (y))), some (.int (J (0))), some (.int (J (0)))] [] (mj μ2 I2) := by
      simp (disch := omega) only [b152_0, b152_6, b152_11, e152, gO_k hO, gR_k f0, gR_k f1, gR_k f2, gR_k f3, gR_k f4, gR_k f5, gR_k f6, gR_k f7, gR_k f8, gO_D hD, gR_D0 hD, gR_D4 hD, gR_D5 hD, gR_D6 hD, gR_D7 hD, gR_D8 hD, al_D1 hD, al_D2 hD, al_D3 hD, al_D4 hD, al_D5 hD, al_D6 hD, rd_D1 hD, rd_D2 hD, rd_D3 hD, rd_D4 hD, rd_D5 hD, rd_D6 hD, o1, Jl0, Jl1, Jl2, Jl3, Jl4, Jl5, Jl6, Jl7, Jl8, Jl9, Jl10, Jl11, Jl12, Jl13, Jl14, Jl15, Jl16, Jl17, Jl18, Jl19, Jl20, Jl22, Jl24, Jl28, Jl30, Jl31, Jl32, Jl35, Jl36, Jl37, Jl38, Jl39, Jl40, Jl48, Jl57, Jl59, Jl60, Jl61, Jl63, Jl64, Jl68, Jl69, Jl96, Jl97, Jl98, Jl99, Jl100, Jl122, Jl149, Jl150, Jl165, Jl255, Jl511, Jl512, Jl600, Jl610, Jl940, Jl968, Jl999, Jl1134, Jl1152, Jl2048, Jl4608, Jl9999, Jl99999, Jl100000, Jl147456, Jl12345, Jl1103515245, Jl100000000, Jlm1, Jlm2, J_add, J_sub, J_mul, J_lt, J_le, J_eq, J_ite, J_cl, ri_j, wi_j, b2i_z, b2i_o, b2i_zo, Int.cast_ofNat_Int, Int.natCast_zero, Int.natCast_one, if_true, if_false, ite_self, Int.le_refl, J_bit, J_or, J_neg, J_oN, Int.reduceEq, Int.reduceLT, Int.reduceLE, Int.reduceNeg, Int.reduceAdd, Int.reduceSub, Int.reduceMul, Int.reduceToNat, J_shl, J_shr, V_ite, true_or, or_true, nz_j, J_div, J_rem, Option.bind_some, Option.toList_some, Option.toList_none, List.cons_append, List.nil_append, Jl21, Jl23, Jl25, Jl74, Jl83, Jl288, Jl324, Jl1800, Jlm8]
    rw [s1]
    have hNi := o2.1.1
    obtain ⟨hO, f0, f1, f2, f3, f4, f5, f6, f7, f8, hD⟩ := CO.o hC2
    have LL := tele (fun u => ex PG E lo d 152 16 [some (.ref lo), some (.int (J (x))), some (.int (J (y))), some (.int (J ((sm (fun u => b2i (!an (fun k => decide (L 0 0 < rdN S (siS S) tST k u)) (S 0 3))) u)))), some (.int (J (u)))] [] (mj μ2 I2)) (a := 0) (n := 36) (fun u e1 e2 => by
      have ham := am_sp (E := E) (lo := lo) (d := d) (u := u) (by omega) o2.1 (by omega) ⟨e1, e2⟩
      have w8 := bs_512 (fun k => decide (L 0 0 < rdS S (I2 (lo + 84 + 14)) (I2 (lo + 84 + 15)) k u)) (n := S 0 3) (by omega)
      have bz := bs_z (fun k => decide (L 0 0 < rdS S (I2 (lo + 84 + 14)) (I2 (lo + 84 + 15)) k u)) (n := S 0 3) (by omega)
      have ec : an (fun k => decide (L 0 0 < rdS S (I2 (lo + 84 + 14)) (I2 (lo + 84 + 15)) k u)) (S 0 3) = an (fun k => decide (L 0 0 < rdN S (siS S) tST k u)) (S 0 3) := an_congr _ _ (fun i a b => by rw [o2.rds hK.2.2.2.1 ⟨a, b⟩ ⟨e1, e2⟩])
      rw [ec] at bz
      rw [b152_16, sm_s _ e1]
      simp (disch := omega) only [b152_23, b152_32, b152_35, b152_38, gO_k hO, gR_k f0, gR_k f1, gR_k f2, gR_k f3, gR_k f4, gR_k f5, gR_k f6, gR_k f7, gR_k f8, gO_D hD, gR_D0 hD, gR_D4 hD, gR_D5 hD, gR_D6 hD, gR_D7 hD, gR_D8 hD, al_D1 hD, al_D2 hD, al_D3 hD, al_D4 hD, al_D5 hD, al_D6 hD, rd_D1 hD, rd_D2 hD, rd_D3 hD, rd_D4 hD, rd_D5 hD, rd_D6 hD, gO_N hNi, gR_N3 hNi, gR_N4 hNi, gR_N5 hNi, gR_N6 hNi, al_N14 hNi, al_N15 hNi, al_N16 hNi, al_N17 hNi, rd_N14 hNi, rd_N15 hNi, rd_N16 hNi, rd_N17 hNi, ham, bz, Jl0, Jl1, Jl2, Jl3, Jl4, Jl5, Jl6, Jl7, Jl8, Jl9, Jl10, Jl11, Jl12, Jl13, Jl14, Jl15, Jl16, Jl17, Jl18, Jl19, Jl20, Jl22, Jl24, Jl28, Jl30, Jl31, Jl32, Jl35, Jl36, Jl37, Jl38, Jl39, Jl40, Jl48, Jl57, Jl59, Jl60, Jl61, Jl63, Jl64, Jl68, Jl69, Jl96, Jl97, Jl98, Jl99, Jl100, Jl122, Jl149, Jl150, Jl165, Jl255, Jl511, Jl512, Jl600, Jl610, Jl940, Jl968, Jl999, Jl1134, Jl1152, Jl2048, Jl4608, Jl9999, Jl99999, Jl100000, Jl147456, Jl12345, Jl1103515245, Jl100000000, Jlm1, Jlm2, J_add, J_sub, J_mul, J_lt, J_le, J_eq, J_ite, J_cl, ri_j, wi_j, b2i_z, b2i_o, b2i_zo, Int.cast_ofNat_Int, Int.natCast_zero, Int.natCast_one, if_true, if_false, ite_self, Int.le_refl, J_bit, J_or, J_neg, J_oN, Int.reduceEq, Int.reduceLT, Int.reduceLE, Int.reduceNeg, Int.reduceAdd, Int.reduceSub, Int.reduceMul, Int.reduceToNat, J_shl, J_shr, V_ite, true_or, or_true, nz_j, J_div, J_rem, Option.bind_some, Option.toList_some, Option.toList_none, List.cons_append, List.nil_append, Jl21, Jl23, Jl25, Jl74, Jl83, Jl288, Jl324, Jl1800, Jlm8]
      rw [if_neg (by omega)]
      cases an (fun k => decide (L 0 0 < rdN S (siS S) tST k u)) (S 0 3) with
      | false => rw [if_pos rfl]; rfl
      | true => rw [if_neg (by decide), show b2i (!true) = 0 from rfl, Int.add_zero]) (by omega)
    rw [sm_0] at LL
    refine LL.trans ?_
    rw [b152_16]
    simp (disch := omega) only [b152_44, Jl0, Jl1, Jl2, Jl3, Jl4, Jl5, Jl6, Jl7, Jl8, Jl9, Jl10, Jl11, Jl12, Jl13, Jl14, Jl15, Jl16, Jl17, Jl18, Jl19, Jl20, Jl22, Jl24, Jl28, Jl30, Jl31, Jl32, Jl35, Jl36, Jl37, Jl38, Jl39, Jl40, Jl48, Jl57, Jl59, Jl60, Jl61, Jl63, Jl64, Jl68, Jl69, Jl96, Jl97, Jl98, Jl99, Jl100, Jl122, Jl149, Jl150, Jl165, Jl255, Jl511, Jl512, Jl600, Jl610, Jl940, Jl968, Jl999, Jl1134, Jl1152, Jl2048, Jl4608, Jl9999, Jl99999, Jl100000, Jl147456, Jl12345, Jl1103515245, Jl100000000, Jlm1, Jlm2, J_add, J_sub, J_mul, J_lt, J_le, J_eq, J_ite, J_cl, ri_j, wi_j, b2i_z, b2i_o, b2i_zo, Int.cast_ofNat_Int, Int.natCast_zero, Int.natCast_one, if_true, if_false, ite_self, Int.le_refl, J_bit, J_or, J_neg, J_oN, Int.reduceEq, Int.reduceLT, Int.reduceLE, Int.reduceNeg, Int.reduceAdd, Int.reduceSub, Int.reduceMul, Int.reduceToNat, J_shl, J_shr, V_ite, true_or, or_true, nz_j, J_div, J_rem, Option.bind_some, Option.toList_some, Option.toList_none, List.cons_append, List.nil_append, Jl21, Jl23, Jl25, Jl74, Jl83, Jl288, Jl324, Jl1800, Jlm8]
  · rw [if_neg cy]
    have o1 := ios_n (E := E) (d := d) (by omega) hC hK.2.1 hx cy
    refine ⟨μ, I, ?_, FQ.r⟩
    simp (disch := omega) only [b152_0, b152_6, b152_9, e152, gO_k hO, gR_k f0, gR_k f1, gR_k f2, gR_k f3, gR_k f4, gR_k f5, gR_k f6, gR_k f7, gR_k f8, gO_D hD, gR_D0 hD, gR_D4 hD, gR_D5 hD, gR_D6 hD, gR_D7 hD, gR_D8 hD, al_D1 hD, al_D2 hD, al_D3 hD, al_D4 hD, al_D5 hD, al_D6 hD, rd_D1 hD, rd_D2 hD, rd_D3 hD, rd_D4 hD, rd_D5 hD, rd_D6 hD, o1, Jl0, Jl1, Jl2, Jl3, Jl4, Jl5, Jl6, Jl7, Jl8, Jl9, Jl10, Jl11, Jl12, Jl13, Jl14, Jl15, Jl16, Jl17, Jl18, Jl19, Jl20, Jl22, Jl24, Jl28, Jl30, Jl31, Jl32, Jl35, Jl36, Jl37, Jl38, Jl39, Jl40, Jl48, Jl57, Jl59, Jl60, Jl61, Jl63, Jl64, Jl68, Jl69, Jl96, Jl97, Jl98, Jl99, Jl100, Jl122, Jl149, Jl150, Jl165, Jl255, Jl511, Jl512, Jl600, Jl610, Jl940, Jl968, Jl999, Jl1134, Jl1152, Jl2048, Jl4608, Jl9999, Jl99999, Jl100000, Jl147456, Jl12345, Jl1103515245, Jl100000000, Jlm1, Jlm2, J_add, J_sub, J_mul, J_lt, J_le, J_eq, J_ite, J_cl, ri_j, wi_j, b2i_z, b2i_o, b2i_zo, Int.cast_ofNat_Int, Int.natCast_zero, Int.natCast_one, if_true, if_false, ite_self, Int.le_refl, J_bit, J_or, J_neg, J_oN, Int.reduceEq, Int.reduceLT, Int.reduceLE, Int.reduceNeg, Int.reduceAdd, Int.reduceSub, Int.reduceMul, Int.reduceToNat, J_shl, J_shr, V_ite, true_or, or_true, nz_j, J_div, J_rem, Option.bind_some, Option.toList_some, Option.toList_none, List.cons_append, List.nil_append, Jl21, Jl23, Jl25, Jl74, Jl83, Jl288, Jl324, Jl1800, Jlm8]
theorem c_hours (hd : 8 ≤ d) (hK : CK μ I lo) (hx : i32 x ∧ i32 z ∧ i32 w) (eS : S = rws I (lo + 8 + 20 * x.toNat)) (eR : R = rws I (lo + 23 + 20 * z.toNat)) (eT : T = wlS S R (rws I (lo + 74)) 40) : CQ lo μ I (if (0 ≤ x ∧ x < I (lo + 1 + 2) 0) ∧ (0 ≤ z ∧ z < I (lo + 1 + 2) 2) ∧ (0 ≤ w ∧ w < 9) then sm (fun j => sm (rgT S T (rdN S (siS S) T) (w * 4 + j)) (S 0 3)) 4 else -1) (cl E lo d 137 [.ref lo, .int (J (x)), .int (J (z)), .int (J (w))] (mj μ I)) := by
  obtain ⟨d, rfl⟩ : ∃ e, d = e + 1 := ⟨d - 1, by omega⟩
  have hx' := hx
  unfold i32 at hx'
  have hC := hK.1
  obtain ⟨hO, f0, f1, f2, f3, f4, f5, f6, f7, f8, hD⟩ := CO.o hC
  by_cases cy : (0 ≤ x ∧ x < I (lo + 1 + 2) 0) ∧ (0 ≤ z ∧ z < I (lo + 1 + 2) 2)
  · have hst := stop_y (E := E) (d := d) (by omega) hC hK.2.1 ⟨hx.1, hx.2.1⟩ cy
    rw [← eS, ← eR, ← eT] at hst
    have hV := (hK.2.1.2.1 x cy.1.1 cy.1.2).1
    have hRV := hK.2.1.2.2.2.1 z cy.2.1 cy.2.2
    rw [← eS] at hV
    rw [← eR] at hRV
    have hst0 := (st_min (S := S) (R := R) (x := 40) hRV (by omega)).1
    obtain ⟨w1, w2, _⟩ := wl_ok (S := S) (R := R) (T := rws I (lo + 74)) (x := 40) hV hRV (by omega)
    rw [← eT] at w1 w2
    obtain ⟨st, est⟩ : ∃ v, v = stQ S R 40 := ⟨_, rfl⟩
    rw [← est] at hst hst0
    have hc0 := hK.2.1.1 0 (by omega) (by omega)
    have hc2 := hK.2.1.1 2 (by omega) (by omega)
    by_cases cw : 0 ≤ w ∧ w < 9
    · rw [if_pos ⟨cy.1, cy.2, cw⟩]
      have gS := hC.pS (x := x) (by omega)
      have hA := rws_S (I := I) (hC.Sx (x := x) (by omega))
      rw [← eS] at hA
      have hB := rws_L (I := I) hC.L72
      have hA' : AtS μ (sB I (lo + 74) 5 T) (lo + 8 + 20 * x.toNat) S := hA.fr (fun a q1 q2 => sB_n (by omega))
      have hB' : AtL μ (sB I (lo + 74) 5 T) (lo + 72) (rws I (lo + 72)) := hB.fr (fun a q1 q2 => sB_n (by omega))
      have hT' : AtT μ (sB I (lo + 74) 5 T) (lo + 74) T := ⟨hC.T74, fun f hf => sB_c hf⟩
      obtain ⟨μ2, I2, o1, o2, o3⟩ := opn_sp (E := E) (d := d) (I := sB I (lo + 74) 5 T) (by omega) hC (by rw [sB_n (by omega), sB_n (by omega)]; exact hK.2.2.1) hA' hV hB' hK.2.2.2.2 hT' w2 w1 (by omega)
      refine ⟨μ2, I2, ?_, FQ.t FQ_74 o3⟩
      have hC2 := o3.C hC
      have hrg := rg_sp (E := E) (lo := lo) (d := d) (x := w * 4) (y := (w + 1) * 4) (by omega) o2.1 (by omega) (by omega)
      rw [show (w + 1) * 4 - w * 4 = 4 by omega] at hrg
      have e1 : sm (fun j => sm (rgS S T (I2 (lo + 84 + 14)) (I2 (lo + 84 + 15)) (w * 4 + j)) (S 0 3)) 4 = sm (fun j => sm (rgT S T (rdN S (siS S) T) (w * 4 + j)) (S 0 3)) 4 := sm_congr _ _ (fun j a b => sm_congr _ _ (fun i c d => by
        unfold rgS rgT
        rw [o2.rd ⟨c, d⟩ (by omega)]))
      rw [e1] at hrg
      have hNi := hC.N84
      have s1 : cl E lo (d + 1) 137 [.ref lo, .int (J x), .int (J z), .int (J w)] (mj μ I) = ex PG E lo d 137 46 [some (.ref lo), some (.int (J (x))), some (.int (J (z))), some (.int (J (w)))] [] (mj μ2 I2) := by
        simp (disch := omega) only [b137_0, b137_6, b137_10, b137_14, b137_22, e137, gO_k hO, gR_k f0, gR_k f1, gR_k f2, gR_k f3, gR_k f4, gR_k f5, gR_k f6, gR_k f7, gR_k f8, gO_D hD, gR_D0 hD, gR_D4 hD, gR_D5 hD, gR_D6 hD, gR_D7 hD, gR_D8 hD, al_D1 hD, al_D2 hD, al_D3 hD, al_D4 hD, al_D5 hD, al_D6 hD, rd_D1 hD, rd_D2 hD, rd_D3 hD, rd_D4 hD, rd_D5 hD, rd_D6 hD, hst, gR_k gS, gO_N hNi, gR_N3 hNi, gR_N4 hNi, gR_N5 hNi, gR_N6 hNi, al_N14 hNi, al_N15 hNi, al_N16 hNi, al_N17 hNi, rd_N14 hNi, rd_N15 hNi, rd_N16 hNi, rd_N17 hNi, o1, Jl0, Jl1, Jl2, Jl3, Jl4, Jl5, Jl6, Jl7, Jl8, Jl9, Jl10, Jl11, Jl12, Jl13, Jl14, Jl15, Jl16, Jl17, Jl18, Jl19, Jl20, Jl22, Jl24, Jl28, Jl30, Jl31, Jl32, Jl35, Jl36, Jl37, Jl38, Jl39, Jl40, Jl48, Jl57, Jl59, Jl60, Jl61, Jl63, Jl64, Jl68, Jl69, Jl96, Jl97, Jl98, Jl99, Jl100, Jl122, Jl149, Jl150, Jl165, Jl255, Jl511, Jl512, Jl600, Jl610, Jl940, Jl968, Jl999, Jl1134, Jl1152, Jl2048, Jl4608, Jl9999, Jl99999, Jl100000, Jl147456, Jl12345, Jl1103515245, Jl100000000, Jlm1, Jlm2, J_add, J_sub, J_mul, J_lt, J_le, J_eq, J_ite, J_cl, ri_j, wi_j, b2i_z, b2i_o, b2i_zo, Int.cast_ofNat_Int, Int.natCast_zero, Int.natCast_one, if_true, if_false, ite_self, Int.le_refl, J_bit, J_or, J_neg, J_oN, Int.reduceEq, Int.reduceLT, Int.reduceLE, Int.reduceNeg, Int.reduceAdd, Int.reduceSub, Int.reduceMul, Int.reduceToNat, J_shl, J_shr, V_ite, true_or, or_true, nz_j, J_div, J_rem, Option.bind_some, Option.toList_some, Option.toList_none, List.cons_append, List.nil_append, Jl21, Jl23, Jl25, Jl74, Jl83, Jl288, Jl324, Jl1800, Jlm8]
        repeat (first | rw [if_neg (by omega)] | rw [if_pos (by omega)])
      rw [s1]
      have hNj := o2.1.1
      obtain ⟨hO, f0, f1, f2, f3, f4, f5, f6, f7, f8, hD⟩ := CO.o hC2
      simp (disch := omega) only [b137_46, b137_61, gO_k hO, gR_k f0, gR_k f1, gR_k f2, gR_k f3, gR_k f4, gR_k f5, gR_k f6, gR_k f7, gR_k f8, gO_D hD, gR_D0 hD, gR_D4 hD, gR_D5 hD, gR_D6 hD, gR_D7 hD, gR_D8 hD, al_D1 hD, al_D2 hD, al_D3 hD, al_D4 hD, al_D5 hD, al_D6 hD, rd_D1 hD, rd_D2 hD, rd_D3 hD, rd_D4 hD, rd_D5 hD, rd_D6 hD, gO_N hNj, gR_N3 hNj, gR_N4 hNj, gR_N5 hNj, gR_N6 hNj, al_N14 hNj, al_N15 hNj, al_N16 hNj, al_N17 hNj, rd_N14 hNj, rd_N15 hNj, rd_N16 hNj, rd_N17 hNj, hrg, Jl0, Jl1, Jl2, Jl3, Jl4, Jl5, Jl6, Jl7, Jl8, Jl9, Jl10, Jl11, Jl12, Jl13, Jl14, Jl15, Jl16, Jl17, Jl18, Jl19, Jl20, Jl22, Jl24, Jl28, Jl30, Jl31, Jl32, Jl35, Jl36, Jl37, Jl38, Jl39, Jl40, Jl48, Jl57, Jl59, Jl60, Jl61, Jl63, Jl64, Jl68, Jl69, Jl96, Jl97, Jl98, Jl99, Jl100, Jl122, Jl149, Jl150, Jl165, Jl255, Jl511, Jl512, Jl600, Jl610, Jl940, Jl968, Jl999, Jl1134, Jl1152, Jl2048, Jl4608, Jl9999, Jl99999, Jl100000, Jl147456, Jl12345, Jl1103515245, Jl100000000, Jlm1, Jlm2, J_add, J_sub, J_mul, J_lt, J_le, J_eq, J_ite, J_cl, ri_j, wi_j, b2i_z, b2i_o, b2i_zo, Int.cast_ofNat_Int, Int.natCast_zero, Int.natCast_one, if_true, if_false, ite_self, Int.le_refl, J_bit, J_or, J_neg, J_oN, Int.reduceEq, Int.reduceLT, Int.reduceLE, Int.reduceNeg, Int.reduceAdd, Int.reduceSub, Int.reduceMul, Int.reduceToNat, J_shl, J_shr, V_ite, true_or, or_true, nz_j, J_div, J_rem, Option.bind_some, Option.toList_some, Option.toList_none, List.cons_append, List.nil_append, Jl21, Jl23, Jl25, Jl74, Jl83, Jl288, Jl324, Jl1800, Jlm8]
    · rw [if_neg (fun q => cw q.2.2)]
      refine ⟨μ, _, ?_, FQ_74 (W := T)⟩
      by_cases n0 : w < 0
      · simp (disch := omega) only [b137_0, b137_6, b137_10, b137_20, e137, gO_k hO, gR_k f0, gR_k f1, gR_k f2, gR_k f3, gR_k f4, gR_k f5, gR_k f6, gR_k f7, gR_k f8, gO_D hD, gR_D0 hD, gR_D4 hD, gR_D5 hD, gR_D6 hD, gR_D7 hD, gR_D8 hD, al_D1 hD, al_D2 hD, al_D3 hD, al_D4 hD, al_D5 hD, al_D6 hD, rd_D1 hD, rd_D2 hD, rd_D3 hD, rd_D4 hD, rd_D5 hD, rd_D6 hD, hst, Jl0, Jl1, Jl2, Jl3, Jl4, Jl5, Jl6, Jl7, Jl8, Jl9, Jl10, Jl11, Jl12, Jl13, Jl14, Jl15, Jl16, Jl17, Jl18, Jl19, Jl20, Jl22, Jl24, Jl28, Jl30, Jl31, Jl32, Jl35, Jl36, Jl37, Jl38, Jl39, Jl40, Jl48, Jl57, Jl59, Jl60, Jl61, Jl63, Jl64, Jl68, Jl69, Jl96, Jl97, Jl98, Jl99, Jl100, Jl122, Jl149, Jl150, Jl165, Jl255, Jl511, Jl512, Jl600, Jl610, Jl940, Jl968, Jl999, Jl1134, Jl1152, Jl2048, Jl4608, Jl9999, Jl99999, Jl100000, Jl147456, Jl12345, Jl1103515245, Jl100000000, Jlm1, Jlm2, J_add, J_sub, J_mul, J_lt, J_le, J_eq, J_ite, J_cl, ri_j, wi_j, b2i_z, b2i_o, b2i_zo, Int.cast_ofNat_Int, Int.natCast_zero, Int.natCast_one, if_true, if_false, ite_self, Int.le_refl, J_bit, J_or, J_neg, J_oN, Int.reduceEq, Int.reduceLT, Int.reduceLE, Int.reduceNeg, Int.reduceAdd, Int.reduceSub, Int.reduceMul, Int.reduceToNat, J_shl, J_shr, V_ite, true_or, or_true, nz_j, J_div, J_rem, Option.bind_some, Option.toList_some, Option.toList_none, List.cons_append, List.nil_append, Jl21, Jl23, Jl25, Jl74, Jl83, Jl288, Jl324, Jl1800, Jlm8]
        repeat (first | rw [if_neg (by omega)] | rw [if_pos (by omega)])
      · simp (disch := omega) only [b137_0, b137_6, b137_10, b137_14, b137_20, e137, gO_k hO, gR_k f0, gR_k f1, gR_k f2, gR_k f3, gR_k f4, gR_k f5, gR_k f6, gR_k f7, gR_k f8, gO_D hD, gR_D0 hD, gR_D4 hD, gR_D5 hD, gR_D6 hD, gR_D7 hD, gR_D8 hD, al_D1 hD, al_D2 hD, al_D3 hD, al_D4 hD, al_D5 hD, al_D6 hD, rd_D1 hD, rd_D2 hD, rd_D3 hD, rd_D4 hD, rd_D5 hD, rd_D6 hD, hst, Jl0, Jl1, Jl2, Jl3, Jl4, Jl5, Jl6, Jl7, Jl8, Jl9, Jl10, Jl11, Jl12, Jl13, Jl14, Jl15, Jl16, Jl17, Jl18, Jl19, Jl20, Jl22, Jl24, Jl28, Jl30, Jl31, Jl32, Jl35, Jl36, Jl37, Jl38, Jl39, Jl40, Jl48, Jl57, Jl59, Jl60, Jl61, Jl63, Jl64, Jl68, Jl69, Jl96, Jl97, Jl98, Jl99, Jl100, Jl122, Jl149, Jl150, Jl165, Jl255, Jl511, Jl512, Jl600, Jl610, Jl940, Jl968, Jl999, Jl1134, Jl1152, Jl2048, Jl4608, Jl9999, Jl99999, Jl100000, Jl147456, Jl12345, Jl1103515245, Jl100000000, Jlm1, Jlm2, J_add, J_sub, J_mul, J_lt, J_le, J_eq, J_ite, J_cl, ri_j, wi_j, b2i_z, b2i_o, b2i_zo, Int.cast_ofNat_Int, Int.natCast_zero, Int.natCast_one, if_true, if_false, ite_self, Int.le_refl, J_bit, J_or, J_neg, J_oN, Int.reduceEq, Int.reduceLT, Int.reduceLE, Int.reduceNeg, Int.reduceAdd, Int.reduceSub, Int.reduceMul, Int.reduceToNat, J_shl, J_shr, V_ite, true_or, or_true, nz_j, J_div, J_rem, Option.bind_some, Option.toList_some, Option.toList_none, List.cons_append, List.nil_append, Jl21, Jl23, Jl25, Jl74, Jl83, Jl288, Jl324, Jl1800, Jlm8]
        repeat (first | rw [if_neg (by omega)] | rw [if_pos (by omega)])
  · rw [if_neg (fun q => cy ⟨q.1, q.2.1⟩)]
    have hst := stop_n (E := E) (d := d) (by omega) hC hK.2.1 ⟨hx.1, hx.2.1⟩ cy
    refine ⟨μ, I, ?_, FQ.r⟩
    simp (disch := omega) only [b137_0, b137_6, b137_20, e137, gO_k hO, gR_k f0, gR_k f1, gR_k f2, gR_k f3, gR_k f4, gR_k f5, gR_k f6, gR_k f7, gR_k f8, gO_D hD, gR_D0 hD, gR_D4 hD, gR_D5 hD, gR_D6 hD, gR_D7 hD, gR_D8 hD, al_D1 hD, al_D2 hD, al_D3 hD, al_D4 hD, al_D5 hD, al_D6 hD, rd_D1 hD, rd_D2 hD, rd_D3 hD, rd_D4 hD, rd_D5 hD, rd_D6 hD, hst, Jl0, Jl1, Jl2, Jl3, Jl4, Jl5, Jl6, Jl7, Jl8, Jl9, Jl10, Jl11, Jl12, Jl13, Jl14, Jl15, Jl16, Jl17, Jl18, Jl19, Jl20, Jl22, Jl24, Jl28, Jl30, Jl31, Jl32, Jl35, Jl36, Jl37, Jl38, Jl39, Jl40, Jl48, Jl57, Jl59, Jl60, Jl61, Jl63, Jl64, Jl68, Jl69, Jl96, Jl97, Jl98, Jl99, Jl100, Jl122, Jl149, Jl150, Jl165, Jl255, Jl511, Jl512, Jl600, Jl610, Jl940, Jl968, Jl999, Jl1134, Jl1152, Jl2048, Jl4608, Jl9999, Jl99999, Jl100000, Jl147456, Jl12345, Jl1103515245, Jl100000000, Jlm1, Jlm2, J_add, J_sub, J_mul, J_lt, J_le, J_eq, J_ite, J_cl, ri_j, wi_j, b2i_z, b2i_o, b2i_zo, Int.cast_ofNat_Int, Int.natCast_zero, Int.natCast_one, if_true, if_false, ite_self, Int.le_refl, J_bit, J_or, J_neg, J_oN, Int.reduceEq, Int.reduceLT, Int.reduceLE, Int.reduceNeg, Int.reduceAdd, Int.reduceSub, Int.reduceMul, Int.reduceToNat, J_shl, J_shr, V_ite, true_or, or_true, nz_j, J_div, J_rem, Option.bind_some, Option.toList_some, Option.toList_none, List.cons_append, List.nil_append, Jl21, Jl23, Jl25, Jl74, Jl83, Jl288, Jl324, Jl1800, Jlm8]
end CLASS
