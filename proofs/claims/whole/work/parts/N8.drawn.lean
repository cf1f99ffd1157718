/-! THE CLASS: drawn nights -/
theorem agW_t {S S' S2 : Nat → Int → Int} (h : agW S S') (k : agW S' S2) : agW S S2 := by
  obtain ⟨⟨a0, a1, a3, a13⟩, b, c, e⟩ := h
  obtain ⟨⟨c0, c1, c3, c13⟩, b', c', e'⟩ := k
  refine ⟨⟨c0.trans a0, c1.trans a1, c3.trans a3, c13.trans a13⟩, fun i q1 q2 => (b' i q1 q2).trans (b i q1 q2), fun f f1 f2 j q1 q2 => (c' f f1 f2 j q1 (by omega)).trans (c f f1 f2 j q1 q2), fun i q1 q2 => ?_⟩
  have z := e' i q1 (by omega)
  have y := e i q1 q2
  exact ⟨z.1.trans y.1, z.2.trans y.2⟩
section CLASS
variable {E : (Nat → Value) × (Nat → Nat)} {lo d s l t : Nat} {μ : rM} {I S L T R : Nat → Int → Int} {x y z w k u h a b n sd : Int} {bb : Bool}
/-- a night is opened: nothing else changes -/
theorem opn2_sp (hd : 5 ≤ d) (hC : CO μ lo) (hI : DV (I (lo + 84 + 14)) ∧ SiV (I (lo + 84 + 15))) (hS : AtS μ I s S) (hV : SV S) (hL : AtL μ I l L) (hLV : LV L) (hT : AtT μ I t T) (hTV : TV T) (hZ : TZ T) (hA : (s + 13 ≤ lo + 84 ∨ lo + 84 + 18 ≤ s) ∧ (l + 2 ≤ lo + 84 ∨ lo + 84 + 18 ≤ l) ∧ (t + 5 ≤ lo + 84 ∨ lo + 84 + 18 ≤ t)) : ∃ I2, cl E lo d 11 [.ref ((lo + 84)), .ref s, .ref l, .ref t] (mj μ I) = some (none, mj (opn μ (lo + 84) s l t) I2) ∧ NO (opn μ (lo + 84) s l t) I2 lo s l t S L T ∧ (∀ a, (a < lo + 84 + 14 ∨ lo + 84 + 17 < a) → I2 a = I a) := by
  have hN0 : NC (opn μ (lo + 84) s l t) I (lo + 84) s l t S L T := ⟨ShN_opn hC.N84, by rw [rr_opn, if_neg (by omega), if_neg (by omega), if_pos ⟨rfl, rfl⟩], by rw [rr_opn, if_neg (by omega), if_pos ⟨rfl, rfl⟩], by rw [rr_opn, if_pos ⟨rfl, rfl⟩], ⟨ShS_opn hS.1 (by omega), hS.2⟩, hV, ⟨ShL_opn hL.1 (by omega), hL.2⟩, hLV, ⟨ShT_opn hT.1 (by omega), hT.2⟩, hTV, hA, hI.1, hI.2⟩
  obtain ⟨g, hg⟩ := op_sp (E := E) (lo := lo) (d := d) hd hN0 (by omega)
  have v := hV.1
  refine ⟨_, hg, ⟨?_, ?_, ?_, ?_⟩, fun a ha => ?_⟩
  · exact NC_sA (NC_sA (NC_14 (NC_15 hN0 (siX_V hV hI.2)) (dpX_V hV hI.1 (Int.le_refl _))) (Or.inr rfl)) (Or.inl rfl)
  · rw [sA_n (by omega), sA_n (by omega), sA_s]
    exact dp_DT
  · intro k h1 h2
    rw [sA_n (by omega), sA_n (by omega), sA_n (by omega), sA_s]
    exact if_pos ⟨h1, h2⟩
  · intro k h1 h2
    rw [sA_s]
    unfold duX
    rw [if_pos ⟨h1, h2⟩, due_link hV hZ dp_DT (si_o hV) ⟨h1, h2⟩]
    exact dueT_si ⟨h1, h2⟩ (fun j g1 g2 => if_pos ⟨g1, g2⟩)
  · rw [sA_n (by omega), sA_n (by omega), sA_n (by omega), sA_n (by omega)]
theorem NO.ab (hN : NO μ I lo s l t S L T) (hZ : TZ T) : an (fun i => abS S L (I (lo + 84 + 14)) (I (lo + 84 + 15)) (T 2 (T 4 i)) (T 4 i)) (T 0 7) = an (fun u => an (abT S L T (rdN S (siS S) T) u) (S 0 3)) 36 := by
  have hV := hN.1.2.2.2.2.2.1
  have hLV := hN.1.2.2.2.2.2.2.2.1
  have ho : SIo S (I (lo + 84 + 15)) := fun j g1 g2 => by rw [hN.2.2.1 j g1 g2]; exact siS_SIo hV j g1 g2
  rw [ab_link hV hLV hZ hN.2.1 ho]
  exact fo_congr _ _ _ (fun u x q1 q2 => by
    dsimp only
    rw [show an (abT S L T (rdN S (I (lo + 84 + 15)) T) u) (S 0 3) = an (abT S L T (rdN S (siS S) T) u) (S 0 3) from fo_congr _ _ _ (fun k x q3 q4 => by
      unfold abT
      rw [rdN_si (hN.2.2.1 k q3 q4)])])
theorem dwn_sp (hd : 2 ≤ d) (hC : CO μ lo) (hn : I (lo + 103) 3 = n ∧ 0 ≤ n ∧ n ≤ 9) : ∃ I2, cl E lo d 45 [.ref ((lo + 102)), .int (J (x))] (mj μ I) = some (some (.int (J (dwQ x n).1)), mj μ I2) ∧ (∀ a, a ≠ lo + 103 → a ≠ lo + 103 + 11 → a ≠ lo + 103 + 12 → I2 a = I a) ∧ (∀ j, j ≠ 13 → I2 (lo + 103) j = I (lo + 103) j) ∧ I2 (lo + 103) 13 = (dwQ x n).2.1 ∧ ∀ w, 0 ≤ w → w < (dwQ x n).2.1 → I2 (lo + 103 + 11) w = (dwQ x n).2.2.1 w ∧ I2 (lo + 103 + 12) w = (dwQ x n).2.2.2 w := by
  obtain ⟨d, rfl⟩ : ∃ e, d = e + 1 := ⟨d - 1, by omega⟩
  obtain ⟨p0, p1⟩ := hC.p
  have hP := hC.P102
  have hS := hC.S103
  have hlS : lo ≤ lo + 103 := by omega
  obtain ⟨I2, e, a1, a2, a3, a4⟩ := loop (fun k (I' : Nat → Int → Int) => ex PG E lo d 45 12 [some (.ref ((lo + 102))), some (.int (J (x))), some (.int (J ((dwQ x k).1))), some (.int (J (k)))] [] (mj μ I')) (fun k I' => (∀ a, a ≠ lo + 103 → a ≠ lo + 103 + 11 → a ≠ lo + 103 + 12 → I' a = I a) ∧ (∀ j, j ≠ 13 → I' (lo + 103) j = I (lo + 103) j) ∧ I' (lo + 103) 13 = (dwQ x k).2.1 ∧ ∀ w, 0 ≤ w → w < (dwQ x k).2.1 → I' (lo + 103 + 11) w = (dwQ x k).2.2.1 w ∧ I' (lo + 103 + 12) w = (dwQ x k).2.2.2 w) (a := 0) (n := n) (fun k I' f1 f2 hQ => by
    obtain ⟨a1, a2, a3, a4⟩ := hQ
    have di := dwQ_i (x := x) (n := k) f1
    have i3 : I' (lo + 103) 3 = n := by rw [a2 3 (by decide)]; exact hn.1
    rw [dwQ_s f1]
    unfold dwS
    generalize dwQ x k = p at *
    have en : ∀ z : Int, z * 1103515245 + 12345 = nxQ z := fun _ => rfl
    have rb := rn16_b (nxQ p.1)
    have er : rn16 (nxQ p.1) - rn16 (nxQ p.1) / 4 * 4 = rn16 (nxQ p.1) % 4 := by omega
    have h46 : ∀ z : Int, cl E lo d 46 [.int (J z)] (mj μ I') = some (some (.int (J (nxQ z))), mj μ I') := fun z => by
      obtain ⟨d, rfl⟩ : ∃ e, d = e + 1 := ⟨d - 1, by omega⟩
      simp (disch := omega) only [b46_0, e46, en, Jl0, Jl1, Jl2, Jl3, Jl4, Jl5, Jl6, Jl7, Jl8, Jl9, Jl10, Jl11, Jl12, Jl13, Jl14, Jl15, Jl16, Jl17, Jl18, Jl19, Jl20, Jl22, Jl24, Jl28, Jl30, Jl31, Jl32, Jl35, Jl36, Jl37, Jl38, Jl39, Jl40, Jl48, Jl57, Jl59, Jl60, Jl61, Jl63, Jl64, Jl68, Jl69, Jl96, Jl97, Jl98, Jl99, Jl100, Jl122, Jl149, Jl150, Jl165, Jl255, Jl511, Jl512, Jl600, Jl610, Jl940, Jl968, Jl999, Jl1134, Jl1152, Jl2048, Jl4608, Jl9999, Jl99999, Jl100000, Jl147456, Jl12345, Jl1103515245, Jl100000000, Jlm1, Jlm2, J_add, J_sub, J_mul, J_lt, J_le, J_eq, J_ite, J_cl, ri_j, wi_j, b2i_z, b2i_o, b2i_zo, Int.cast_ofNat_Int, Int.natCast_zero, Int.natCast_one, if_true, if_false, ite_self, Int.le_refl, J_bit, J_or, J_neg, J_oN, Int.reduceEq, Int.reduceLT, Int.reduceLE, Int.reduceNeg, Int.reduceAdd, Int.reduceSub, Int.reduceMul, Int.reduceToNat, J_shl, J_shr, V_ite, true_or, or_true, nz_j, J_div, J_rem, Option.bind_some, Option.toList_some, Option.toList_none, List.cons_append, List.nil_append, Jl21, Jl23, Jl25, Jl74, Jl83, Jl288, Jl324, Jl1800, Jlm8]
    by_cases c : rn16 (nxQ p.1) % 4 = 0
    · rw [if_pos c]
      have rb2 := rn16_b (nxQ (nxQ p.1))
      have er2 : rn16 (nxQ (nxQ p.1)) - rn16 (nxQ (nxQ p.1)) / 36 * 36 = rn16 (nxQ (nxQ p.1)) % 36 := by omega
      have haw := aw_sp (E := E) (lo := lo) (d := d) (I := I') (b := lo + 103) (k := k) (u := rn16 (nxQ (nxQ p.1)) % 36) (by omega) hS hlS (by omega)
      rw [a3] at haw
      refine ⟨u3 (u3 (u3 I' (lo + 103 + 11) p.2.1 k) (lo + 103 + 12) p.2.1 (rn16 (nxQ (nxQ p.1)) % 36)) (lo + 103) 13 (p.2.1 + 1), ?_, fun a q1 q2 q3 => ?_, fun j q => ?_, ?_, fun w q1 q2 => ?_⟩
      · rw [b45_12]
        simp (disch := omega) only [b45_23, b45_27, b45_37, b45_41, b45_57, gO_P hP, gR_P4 hP, gR_P6 hP, gR_P7 hP, gR_P8 hP, gR_P9 hP, gR_P10 hP, al_P14 hP, al_P15 hP, al_P16 hP, al_P17 hP, al_P18 hP, al_P19 hP, rd_P14 hP, rd_P15 hP, rd_P16 hP, rd_P17 hP, rd_P18 hP, rd_P19 hP, gR_k p1, gO_S hS, gR_S2 hS, gR_S4 hS, gR_S5 hS, gR_S6 hS, gR_S7 hS, gR_S8 hS, gR_S9 hS, gR_S10 hS, gR_S11 hS, gR_S12 hS, gR_S14 hS, gR_S15 hS, al_S1 hS, al_S2 hS, al_S3 hS, al_S4 hS, al_S5 hS, al_S6 hS, al_S7 hS, al_S8 hS, al_S9 hS, al_S10 hS, al_S11 hS, al_S12 hS, rd_S1 hS, rd_S2 hS, rd_S3 hS, rd_S4 hS, rd_S5 hS, rd_S6 hS, rd_S7 hS, rd_S8 hS, rd_S9 hS, rd_S10 hS, rd_S11 hS, rd_S12 hS, i3, h46, ush16, er, er2, c, haw, Jl0, Jl1, Jl2, Jl3, Jl4, Jl5, Jl6, Jl7, Jl8, Jl9, Jl10, Jl11, Jl12, Jl13, Jl14, Jl15, Jl16, Jl17, Jl18, Jl19, Jl20, Jl22, Jl24, Jl28, Jl30, Jl31, Jl32, Jl35, Jl36, Jl37, Jl38, Jl39, Jl40, Jl48, Jl57, Jl59, Jl60, Jl61, Jl63, Jl64, Jl68, Jl69, Jl96, Jl97, Jl98, Jl99, Jl100, Jl122, Jl149, Jl150, Jl165, Jl255, Jl511, Jl512, Jl600, Jl610, Jl940, Jl968, Jl999, Jl1134, Jl1152, Jl2048, Jl4608, Jl9999, Jl99999, Jl100000, Jl147456, Jl12345, Jl1103515245, Jl100000000, Jlm1, Jlm2, J_add, J_sub, J_mul, J_lt, J_le, J_eq, J_ite, J_cl, ri_j, wi_j, b2i_z, b2i_o, b2i_zo, Int.cast_ofNat_Int, Int.natCast_zero, Int.natCast_one, if_true, if_false, ite_self, Int.le_refl, J_bit, J_or, J_neg, J_oN, Int.reduceEq, Int.reduceLT, Int.reduceLE, Int.reduceNeg, Int.reduceAdd, Int.reduceSub, Int.reduceMul, Int.reduceToNat, J_shl, J_shr, V_ite, true_or, or_true, nz_j, J_div, J_rem, Option.bind_some, Option.toList_some, Option.toList_none, List.cons_append, List.nil_append, Jl21, Jl23, Jl25, Jl74, Jl83, Jl288, Jl324, Jl1800, Jlm8]
        repeat (first | rw [if_neg (by omega)] | rw [if_pos (by omega)])
      · rw [u3_c q1, u3_c q3, u3_c q2]; exact a1 a q1 q2 q3
      · rw [u3_n (by omega), u3_c (by omega), u3_c (by omega)]; exact a2 j q
      · rw [u3_s]
      · dsimp only at q2 ⊢
        have r11 : u3 (u3 (u3 I' (lo + 103 + 11) p.2.1 k) (lo + 103 + 12) p.2.1 (rn16 (nxQ (nxQ p.1)) % 36)) (lo + 103) 13 (p.2.1 + 1) (lo + 103 + 11) = u1 (I' (lo + 103 + 11)) p.2.1 k := by rw [u3_c (by omega), u3_c (by omega), u3_sA, sA_s]
        have r12 : u3 (u3 (u3 I' (lo + 103 + 11) p.2.1 k) (lo + 103 + 12) p.2.1 (rn16 (nxQ (nxQ p.1)) % 36)) (lo + 103) 13 (p.2.1 + 1) (lo + 103 + 12) = u1 (I' (lo + 103 + 12)) p.2.1 (rn16 (nxQ (nxQ p.1)) % 36) := by
          rw [u3_c (by omega), u3_sA, sA_s, u3_c (by omega)]
        rw [r11, r12]
        by_cases cw : w = p.2.1
        · rw [cw, u1_s, u1_s, u1_s, u1_s]
          exact ⟨rfl, rfl⟩
        · have := a4 w q1 (by omega)
          rw [u1_n cw, u1_n cw, u1_n cw, u1_n cw]
          exact this
    · rw [if_neg c]
      refine ⟨I', ?_, a1, a2, a3, a4⟩
      rw [b45_12]
      simp (disch := omega) only [b45_23, b45_27, b45_57, gO_P hP, gR_P4 hP, gR_P6 hP, gR_P7 hP, gR_P8 hP, gR_P9 hP, gR_P10 hP, al_P14 hP, al_P15 hP, al_P16 hP, al_P17 hP, al_P18 hP, al_P19 hP, rd_P14 hP, rd_P15 hP, rd_P16 hP, rd_P17 hP, rd_P18 hP, rd_P19 hP, gR_k p1, gO_S hS, gR_S2 hS, gR_S4 hS, gR_S5 hS, gR_S6 hS, gR_S7 hS, gR_S8 hS, gR_S9 hS, gR_S10 hS, gR_S11 hS, gR_S12 hS, gR_S14 hS, gR_S15 hS, al_S1 hS, al_S2 hS, al_S3 hS, al_S4 hS, al_S5 hS, al_S6 hS, al_S7 hS, al_S8 hS, al_S9 hS, al_S10 hS, al_S11 hS, al_S12 hS, rd_S1 hS, rd_S2 hS, rd_S3 hS, rd_S4 hS, rd_S5 hS, rd_S6 hS, rd_S7 hS, rd_S8 hS, rd_S9 hS, rd_S10 hS, rd_S11 hS, rd_S12 hS, i3, h46, ush16, er, c, Jl0, Jl1, Jl2, Jl3, Jl4, Jl5, Jl6, Jl7, Jl8, Jl9, Jl10, Jl11, Jl12, Jl13, Jl14, Jl15, Jl16, Jl17, Jl18, Jl19, Jl20, Jl22, Jl24, Jl28, Jl30, Jl31, Jl32, Jl35, Jl36, Jl37, Jl38, Jl39, Jl40, Jl48, Jl57, Jl59, Jl60, Jl61, Jl63, Jl64, Jl68, Jl69, Jl96, Jl97, Jl98, Jl99, Jl100, Jl122, Jl149, Jl150, Jl165, Jl255, Jl511, Jl512, Jl600, Jl610, Jl940, Jl968, Jl999, Jl1134, Jl1152, Jl2048, Jl4608, Jl9999, Jl99999, Jl100000, Jl147456, Jl12345, Jl1103515245, Jl100000000, Jlm1, Jlm2, J_add, J_sub, J_mul, J_lt, J_le, J_eq, J_ite, J_cl, ri_j, wi_j, b2i_z, b2i_o, b2i_zo, Int.cast_ofNat_Int, Int.natCast_zero, Int.natCast_one, if_true, if_false, ite_self, Int.le_refl, J_bit, J_or, J_neg, J_oN, Int.reduceEq, Int.reduceLT, Int.reduceLE, Int.reduceNeg, Int.reduceAdd, Int.reduceSub, Int.reduceMul, Int.reduceToNat, J_shl, J_shr, V_ite, true_or, or_true, nz_j, J_div, J_rem, Option.bind_some, Option.toList_some, Option.toList_none, List.cons_append, List.nil_append, Jl21, Jl23, Jl25, Jl74, Jl83, Jl288, Jl324, Jl1800, Jlm8]
      repeat (first | rw [if_neg (by omega)] | rw [if_pos (by omega)])) hn.2.1 (u3 I (lo + 103) 13 0) ⟨fun a q1 _ _ => u3_c q1, fun j q => u3_n (by omega), u3_s, fun w q1 q2 => by rw [show (dwQ x 0).2.1 = 0 from rfl] at q2; omega⟩
  refine ⟨I2, ?_, a1, a2, a3, a4⟩
  have i3 : I2 (lo + 103) 3 = n := by rw [a2 3 (by decide)]; exact hn.1
  simp (disch := omega) only [b45_0, b45_10, e45, gO_P hP, gR_P4 hP, gR_P6 hP, gR_P7 hP, gR_P8 hP, gR_P9 hP, gR_P10 hP, al_P14 hP, al_P15 hP, al_P16 hP, al_P17 hP, al_P18 hP, al_P19 hP, rd_P14 hP, rd_P15 hP, rd_P16 hP, rd_P17 hP, rd_P18 hP, rd_P19 hP, gR_k p1, gO_S hS, gR_S2 hS, gR_S4 hS, gR_S5 hS, gR_S6 hS, gR_S7 hS, gR_S8 hS, gR_S9 hS, gR_S10 hS, gR_S11 hS, gR_S12 hS, gR_S14 hS, gR_S15 hS, al_S1 hS, al_S2 hS, al_S3 hS, al_S4 hS, al_S5 hS, al_S6 hS, al_S7 hS, al_S8 hS, al_S9 hS, al_S10 hS, al_S11 hS, al_S12 hS, rd_S1 hS, rd_S2 hS, rd_S3 hS, rd_S4 hS, rd_S5 hS, rd_S6 hS, rd_S7 hS, rd_S8 hS, rd_S9 hS, rd_S10 hS, rd_S11 hS, rd_S12 hS, gP_S hS hlS, wr_S1 hS hlS, wr_S2 hS hlS, wr_S3 hS hlS, wr_S4 hS hlS, wr_S5 hS hlS, wr_S6 hS hlS, wr_S7 hS hlS, wr_S8 hS hlS, wr_S9 hS hlS, wr_S10 hS hlS, wr_S11 hS hlS, wr_S12 hS hlS, Jl0, Jl1, Jl2, Jl3, Jl4, Jl5, Jl6, Jl7, Jl8, Jl9, Jl10, Jl11, Jl12, Jl13, Jl14, Jl15, Jl16, Jl17, Jl18, Jl19, Jl20, Jl22, Jl24, Jl28, Jl30, Jl31, Jl32, Jl35, Jl36, Jl37, Jl38, Jl39, Jl40, Jl48, Jl57, Jl59, Jl60, Jl61, Jl63, Jl64, Jl68, Jl69, Jl96, Jl97, Jl98, Jl99, Jl100, Jl122, Jl149, Jl150, Jl165, Jl255, Jl511, Jl512, Jl600, Jl610, Jl940, Jl968, Jl999, Jl1134, Jl1152, Jl2048, Jl4608, Jl9999, Jl99999, Jl100000, Jl147456, Jl12345, Jl1103515245, Jl100000000, Jlm1, Jlm2, J_add, J_sub, J_mul, J_lt, J_le, J_eq, J_ite, J_cl, ri_j, wi_j, b2i_z, b2i_o, b2i_zo, Int.cast_ofNat_Int, Int.natCast_zero, Int.natCast_one, if_true, if_false, ite_self, Int.le_refl, J_bit, J_or, J_neg, J_oN, Int.reduceEq, Int.reduceLT, Int.reduceLE, Int.reduceNeg, Int.reduceAdd, Int.reduceSub, Int.reduceMul, Int.reduceToNat, J_shl, J_shr, V_ite, true_or, or_true, nz_j, J_div, J_rem, Option.bind_some, Option.toList_some, Option.toList_none, List.cons_append, List.nil_append, Jl21, Jl23, Jl25, Jl74, Jl83, Jl288, Jl324, Jl1800, Jlm8]
  refine Eq.trans ?_ (e.trans ?_)
  · rfl
  · rw [b45_12]
    simp (disch := omega) only [b45_63, gO_P hP, gR_P4 hP, gR_P6 hP, gR_P7 hP, gR_P8 hP, gR_P9 hP, gR_P10 hP, al_P14 hP, al_P15 hP, al_P16 hP, al_P17 hP, al_P18 hP, al_P19 hP, rd_P14 hP, rd_P15 hP, rd_P16 hP, rd_P17 hP, rd_P18 hP, rd_P19 hP, gR_k p1, gO_S hS, gR_S2 hS, gR_S4 hS, gR_S5 hS, gR_S6 hS, gR_S7 hS, gR_S8 hS, gR_S9 hS, gR_S10 hS, gR_S11 hS, gR_S12 hS, gR_S14 hS, gR_S15 hS, al_S1 hS, al_S2 hS, al_S3 hS, al_S4 hS, al_S5 hS, al_S6 hS, al_S7 hS, al_S8 hS, al_S9 hS, al_S10 hS, al_S11 hS, al_S12 hS, rd_S1 hS, rd_S2 hS, rd_S3 hS, rd_S4 hS, rd_S5 hS, rd_S6 hS, rd_S7 hS, rd_S8 hS, rd_S9 hS, rd_S10 hS, rd_S11 hS, rd_S12 hS, i3, Jl0, Jl1, Jl2, Jl3, Jl4, Jl5, Jl6, Jl7, Jl8, Jl9, Jl10, Jl11, Jl12, Jl13, Jl14, Jl15, Jl16, Jl17, Jl18, Jl19, Jl20, Jl22, Jl24, Jl28, Jl30, Jl31, Jl32, Jl35, Jl36, Jl37, Jl38, Jl39, Jl40, Jl48, Jl57, Jl59, Jl60, Jl61, Jl63, Jl64, Jl68, Jl69, Jl96, Jl97, Jl98, Jl99, Jl100, Jl122, Jl149, Jl150, Jl165, Jl255, Jl511, Jl512, Jl600, Jl610, Jl940, Jl968, Jl999, Jl1134, Jl1152, Jl2048, Jl4608, Jl9999, Jl99999, Jl100000, Jl147456, Jl12345, Jl1103515245, Jl100000000, Jlm1, Jlm2, J_add, J_sub, J_mul, J_lt, J_le, J_eq, J_ite, J_cl, ri_j, wi_j, b2i_z, b2i_o, b2i_zo, Int.cast_ofNat_Int, Int.natCast_zero, Int.natCast_one, if_true, if_false, ite_self, Int.le_refl, J_bit, J_or, J_neg, J_oN, Int.reduceEq, Int.reduceLT, Int.reduceLE, Int.reduceNeg, Int.reduceAdd, Int.reduceSub, Int.reduceMul, Int.reduceToNat, J_shl, J_shr, V_ite, true_or, or_true, nz_j, J_div, J_rem, Option.bind_some, Option.toList_some, Option.toList_none, List.cons_append, List.nil_append, Jl21, Jl23, Jl25, Jl74, Jl83, Jl288, Jl324, Jl1800, Jlm8]
/-- behind some nights -/
def DRI (μ : rM) (I : Nat → Int → Int) (lo l t : Nat) (S L T : Nat → Int → Int) (sd i : Int) (μ' : rM) (I' : Nat → Int → Int) : Prop := FQ lo μ I μ' I' ∧ (∀ a, a < lo + 84 → I' a = I a) ∧ (rr μ' (lo + 84) 1 = some l ∧ rr μ' (lo + 84) 2 = some t) ∧ ((I' (lo + 103) 0 = S 0 0 ∧ I' (lo + 103) 1 = S 0 1 ∧ I' (lo + 103) 3 = S 0 3) ∧ (∀ i, 0 ≤ i → i < 64 → I' (lo + 103 + 1) i = S 1 i) ∧ ∀ f : Nat, 2 ≤ f → f ≤ 10 → ∀ j, 0 ≤ j → j < S 0 3 → I' (lo + 103 + f) j = S f j) ∧ I' (lo + 102) 5 = (drQ S L T sd i).2.1 ∧ (∀ k, 0 ≤ k → k < S 0 3 → I' (lo + 102 + 15) k = (drQ S L T sd i).2.2 k ∧ 0 ≤ (drQ S L T sd i).2.2 k ∧ (drQ S L T sd i).2.2 k ≤ 999 * i) ∧ (∀ k, S 0 3 ≤ k → k < 9 → I' (lo + 102 + 15) k = 0) ∧ (0 ≤ (drQ S L T sd i).2.1 ∧ (drQ S L T sd i).2.1 ≤ i)
theorem dr1_sp {q5 : Option Value} {μ' : rM} {I' : Nat → Int → Int} (hd : 6 ≤ d) (hC : CO μ lo) (hI0 : DV (I (lo + 84 + 14)) ∧ SiV (I (lo + 84 + 15))) (hL : AtL μ I l L) (hLV : LV L) (hT : AtT μ I t T) (hTV : TV T) (hZ : TZ T) (hV : SV S) (hs : l + 2 ≤ lo + 84 ∧ t + 5 ≤ lo + 84) (hk : 0 ≤ k ∧ k < n ∧ n ≤ 30) (hD : DRI μ I lo l t S L T sd k μ' I') : ∃ μ2 I2 q, ex PG E lo d 44 32 [some (.ref ((lo + 102))), some (.int (J (sd))), some (.int (J (n))), some (.int (J ((drQ S L T sd k).1))), some (.int (J (k))), q5] [] (mj μ' I') = ex PG E lo d 44 32 [some (.ref ((lo + 102))), some (.int (J (sd))), some (.int (J (n))), some (.int (J ((drQ S L T sd (k + 1)).1))), some (.int (J ((k + 1)))), q] [] (mj μ2 I2) ∧ DRI μ I lo l t S L T sd (k + 1) μ2 I2 := by
  obtain ⟨d1, d2, ⟨d3, d4⟩, ⟨d5, d6, d7⟩, d8, d9, d10, d11⟩ := hD
  have v := hV.1
  have hC' := d1.C hC
  obtain ⟨p0, p1⟩ := hC'.p
  have hP := hC'.P102
  have hlP : lo ≤ lo + 102 := by omega
  have hNi := hC'.N84
  have hDS := d1.2.2 hI0
  have e1 : drQ S L T sd (k + 1) = drS S L T (drQ S L T sd k) := drQ_s hk.1
  obtain ⟨p, ep⟩ : ∃ p, p = drQ S L T sd k := ⟨_, rfl⟩
  rw [← ep] at d8 d9 d11 e1 ⊢
  obtain ⟨I2, a1, a2, a3, a4, a5⟩ := dwn_sp (E := E) (lo := lo) (d := d) (μ := μ') (I := I') (x := p.1) (n := S 0 3) (by omega) hC' ⟨d5.2.2, by omega, by omega⟩
  obtain ⟨S2, eS2⟩ : ∃ S2, S2 = rws I2 (lo + 103) := ⟨_, rfl⟩
  have hA2 : AtS μ' I2 (lo + 103) S2 := by rw [eS2]; exact rws_S hC'.S103
  have hw : agW (SD S p.1) S2 := by
    rw [eS2]
    refine ⟨⟨?_, ?_, ?_, ?_⟩, fun i q1 q2 => ?_, fun f f1 f2 j q1 q2 => ?_, fun i q1 q2 => ?_⟩
    · show I2 (lo + 103) 0 = _
      rw [a3 0 (by decide), d5.1]; exact (SW_0 (by decide)).symm
    · show I2 (lo + 103) 1 = _
      rw [a3 1 (by decide), d5.2.1]; exact (SW_0 (by decide)).symm
    · show I2 (lo + 103) 3 = _
      rw [a3 3 (by decide), d5.2.2]; exact (SW_0 (by decide)).symm
    · show I2 (lo + 103) 13 = _
      rw [a4]; exact SW_13.symm
    · show I2 (lo + 103 + 1) i = S 1 i
      rw [a2 _ (by omega) (by omega) (by omega)]; exact d6 i q1 q2
    · have n0 : SD S p.1 0 3 = S 0 3 := SW_0 (by decide)
      rw [n0] at q2
      show I2 (lo + 103 + f) j = SW S _ _ _ f j
      rw [SW_n (by omega) (by omega) (by omega), a2 _ (by omega) (by omega) (by omega)]
      exact d7 f f1 f2 j q1 q2
    · have n1 : SD S p.1 0 13 = (dwQ p.1 (S 0 3)).2.1 := SW_13
      rw [n1] at q2
      exact a5 i q1 q2
  have hVD : SV (SD S p.1) := SD_V hV
  have n0 : SD S p.1 0 3 = S 0 3 := SW_0 (by decide)
  have hV2 := agW_V hw hVD
  have n2 : S2 0 3 = S 0 3 := by rw [hw.1.2.2.1, n0]
  have es : siS (SD S p.1) = siS S := siS_c n0 rfl rfl
  have hL2 : AtL μ' I2 l L := ⟨ShL_m hL.1 d1.1.1 (fun f => d1.1.2.2.2.1 l f (by unfold vaR; omega)), fun f q => by rw [a2 _ (by omega) (by omega) (by omega), d2 _ (by omega)]; exact hL.2 f q⟩
  have hT2 : AtT μ' I2 t T := ⟨ShT_m hT.1 d1.1.1 (fun f => d1.1.2.2.2.1 t f (by unfold vaR; omega)), fun f q => by rw [a2 _ (by omega) (by omega) (by omega), d2 _ (by omega)]; exact hT.2 f q⟩
  obtain ⟨I3, o1, o2, o3⟩ := opn2_sp (E := E) (lo := lo) (d := d) (by omega) hC' (by rw [a2 _ (by omega) (by omega) (by omega), a2 _ (by omega) (by omega) (by omega)]; exact hDS) hA2 hV2 hL2 hLV hT2 hTV hZ (by omega)
  obtain ⟨μ3, eμ3⟩ : ∃ μ3, μ3 = opn μ' (lo + 84) (lo + 103) l t := ⟨_, rfl⟩
  have fq3 : FQ lo μ' I' μ3 I3 := by
    rw [eμ3]
    refine FQ.t FQ_opn ⟨⟨rfl, rfl, rfl, fun _ _ _ => rfl, id⟩, fun a h => ?_, fun _ => ⟨o2.1.2.2.2.2.2.2.2.2.2.2.2.1, o2.1.2.2.2.2.2.2.2.2.2.2.2.2⟩⟩
    rw [o3 a (by omega), a2 a (by omega) (by omega) (by omega)]
  rw [← eμ3] at o1 o2
  have hrr : ∀ j u, 0 ≤ j → j < S 0 3 → 0 ≤ u → u < 36 → rdN S2 (siS S2) T j u = rdN (SD S p.1) (siS S) T j u := fun j u q1 q2 q3 q4 => by
    have b := siS_b hV2 (k := j)
    rw [ag_rdN hw hVD hTV (by omega) ⟨q3, q4⟩ (by omega), ← es]
    exact rdN_si (ag_si hw (by omega))
  have hdu : ∀ j, 0 ≤ j → j < S 0 3 → I3 (lo + 84 + 16) j = dueT (SD S p.1) L T (rdN (SD S p.1) (siS S) T) j := fun j q1 q2 => by
    rw [o2.2.2.2 j q1 (by omega)]
    exact ag_due hw (by omega) (fun i u z1 z2 z3 z4 => hrr i u z1 (by omega) z3 z4)
  have hdb : ∀ j, 0 ≤ j → j < S 0 3 → 0 ≤ dueT (SD S p.1) L T (rdN (SD S p.1) (siS S) T) j ∧ dueT (SD S p.1) L T (rdN (SD S p.1) (siS S) T) j ≤ 999 := fun j q1 q2 => dueT_b hVD hLV hTV (by omega) (fun i u z1 z2 z3 z4 => rdT_b hVD ⟨z1, z2⟩ ⟨z3, z4⟩ (by rw [← es]; exact siS_b hVD))
  have hab : an (fun i => abS S2 L (I3 (lo + 84 + 14)) (I3 (lo + 84 + 15)) (T 2 (T 4 i)) (T 4 i)) (T 0 7) = an (fun u => an (abT (SD S p.1) L T (rdN (SD S p.1) (siS S) T) u) (S 0 3)) 36 := by
    rw [o2.ab hZ]
    refine fo_congr _ _ _ (fun u x q1 q2 => ?_)
    dsimp only
    rw [n2, show an (abT S2 L T (rdN S2 (siS S2) T) u) (S 0 3) = an (abT (SD S p.1) L T (rdN (SD S p.1) (siS S) T) u) (S 0 3) from fo_congr _ _ _ (fun j x q3 q4 => by
      rw [ag_ab hw (by omega) ⟨q1, q2⟩ (fun i u z1 z2 z3 z4 => hrr i u z1 (by omega) z3 z4)])]
  have hC3 := fq3.C hC'
  obtain ⟨p0', p1'⟩ := hC3.p
  have hP3 := hC3.P102
  have hN3 := hC3.N84
  have hS3 := hC3.S103
  obtain ⟨g, e3, b1⟩ := loop (fun j (g : Int → Int) => ex PG E lo d 44 72 [some (.ref ((lo + 102))), some (.int (J (sd))), some (.int (J (n))), some (.int (J ((dwQ p.1 (S 0 3)).1))), some (.int (J (k))), some (.int (J (j)))] [] (mj μ3 (sA I3 (lo + 102 + 15) g))) (fun j g => ∀ i, 0 ≤ i → i < 9 → g i = if i < j then p.2.2 i + dueT (SD S p.1) L T (rdN (SD S p.1) (siS S) T) i else I3 (lo + 102 + 15) i) (a := 0) (n := S 0 3) (fun j g f1 f2 hg => by
    have i3 : sA I3 (lo + 102 + 15) g (lo + 103) 3 = S 0 3 := by rw [sA_n (by omega), o3 _ (by omega), a3 3 (by decide)]; exact d5.2.2
    have ig : g j = p.2.2 j := by
      rw [hg j f1 (by omega), if_neg (by omega), o3 _ (by omega), a2 _ (by omega) (by omega) (by omega)]
      exact (d9 j f1 f2).1
    have pb := (d9 j f1 f2).2
    have id : sA I3 (lo + 102 + 15) g (lo + 84 + 16) j = dueT (SD S p.1) L T (rdN (SD S p.1) (siS S) T) j := by rw [sA_n (by omega)]; exact hdu j f1 f2
    have db := hdb j f1 f2
    refine ⟨u1 g j (p.2.2 j + dueT (SD S p.1) L T (rdN (SD S p.1) (siS S) T) j), ?_, fun i q1 q2 => ?_⟩
    · rw [b44_72]
      simp (disch := omega) only [b44_84, b44_104, gO_P hP3, gR_P4 hP3, gR_P6 hP3, gR_P7 hP3, gR_P8 hP3, gR_P9 hP3, gR_P10 hP3, al_P14 hP3, al_P15 hP3, al_P16 hP3, al_P17 hP3, al_P18 hP3, al_P19 hP3, rd_P14 hP3, rd_P15 hP3, rd_P16 hP3, rd_P17 hP3, rd_P18 hP3, rd_P19 hP3, gP_P hP3 hlP, wr_P14 hP3 hlP, wr_P15 hP3 hlP, wr_P16 hP3 hlP, wr_P17 hP3 hlP, wr_P18 hP3 hlP, wr_P19 hP3 hlP, gR_k p0', gR_k p1', gO_N hN3, gR_N3 hN3, gR_N4 hN3, gR_N5 hN3, gR_N6 hN3, al_N14 hN3, al_N15 hN3, al_N16 hN3, al_N17 hN3, rd_N14 hN3, rd_N15 hN3, rd_N16 hN3, rd_N17 hN3, gO_S hS3, gR_S2 hS3, gR_S4 hS3, gR_S5 hS3, gR_S6 hS3, gR_S7 hS3, gR_S8 hS3, gR_S9 hS3, gR_S10 hS3, gR_S11 hS3, gR_S12 hS3, gR_S14 hS3, gR_S15 hS3, al_S1 hS3, al_S2 hS3, al_S3 hS3, al_S4 hS3, al_S5 hS3, al_S6 hS3, al_S7 hS3, al_S8 hS3, al_S9 hS3, al_S10 hS3, al_S11 hS3, al_S12 hS3, rd_S1 hS3, rd_S2 hS3, rd_S3 hS3, rd_S4 hS3, rd_S5 hS3, rd_S6 hS3, rd_S7 hS3, rd_S8 hS3, rd_S9 hS3, rd_S10 hS3, rd_S11 hS3, rd_S12 hS3, i3, ig, id, u3_sA, sA_s, sA_sA, Jl0, Jl1, Jl2, Jl3, Jl4, Jl5, Jl6, Jl7, Jl8, Jl9, Jl10, Jl11, Jl12, Jl13, Jl14, Jl15, Jl16, Jl17, Jl18, Jl19, Jl20, Jl22, Jl24, Jl28, Jl30, Jl31, Jl32, Jl35, Jl36, Jl37, Jl38, Jl39, Jl40, Jl48, Jl57, Jl59, Jl60, Jl61, Jl63, Jl64, Jl68, Jl69, Jl96, Jl97, Jl98, Jl99, Jl100, Jl122, Jl149, Jl150, Jl165, Jl255, Jl511, Jl512, Jl600, Jl610, Jl940, Jl968, Jl999, Jl1134, Jl1152, Jl2048, Jl4608, Jl9999, Jl99999, Jl100000, Jl147456, Jl12345, Jl1103515245, Jl100000000, Jlm1, Jlm2, J_add, J_sub, J_mul, J_lt, J_le, J_eq, J_ite, J_cl, ri_j, wi_j, b2i_z, b2i_o, b2i_zo, Int.cast_ofNat_Int, Int.natCast_zero, Int.natCast_one, if_true, if_false, ite_self, Int.le_refl, J_bit, J_or, J_neg, J_oN, Int.reduceEq, Int.reduceLT, Int.reduceLE, Int.reduceNeg, Int.reduceAdd, Int.reduceSub, Int.reduceMul, Int.reduceToNat, J_shl, J_shr, V_ite, true_or, or_true, nz_j, J_div, J_rem, Option.bind_some, Option.toList_some, Option.toList_none, List.cons_append, List.nil_append, Jl21, Jl23, Jl25, Jl74, Jl83, Jl288, Jl324, Jl1800, Jlm8]
      repeat (first | rw [if_neg (by omega)] | rw [if_pos (by omega)])
    · by_cases c : i = j
      · rw [c, u1_s, if_pos (by omega)]
      · rw [u1_n c, hg i q1 q2]
        by_cases c2 : i < j
        · rw [if_pos c2, if_pos (by omega)]
        · rw [if_neg c2, if_neg (by omega)]) (by omega) (I3 (lo + 102 + 15)) (fun i q1 q2 => by rw [if_neg (by omega)])
  rw [sA_id] at e3
  have hN4 : NO μ3 (sA I3 (lo + 102 + 15) g) lo (lo + 103) l t S2 L T := ⟨NC_fr o2.1 (fun a _ _ => sA_n (by omega)) (fun a _ _ => sA_n (by omega)) (fun a _ _ => sA_n (by omega)) (sA_n (by omega)) (sA_n (by omega)), by rw [sA_n (by omega)]; exact o2.2.1, by rw [sA_n (by omega)]; exact o2.2.2.1, by rw [sA_n (by omega)]; exact o2.2.2.2⟩
  have hac := ac_sp (E := E) (lo := lo) (d := d) (by omega) hN4.1 (by omega)
  rw [sA_n (by omega), sA_n (by omega), hab] at hac
  obtain ⟨cc, ecc⟩ : ∃ cc, cc = an (fun u => an (abT (SD S p.1) L T (rdN (SD S p.1) (siS S) T) u) (S 0 3)) 36 := ⟨_, rfl⟩
  rw [← ecc] at hac
  have i5 : I3 (lo + 102) 5 = p.2.1 := by rw [o3 _ (by omega), a2 _ (by omega) (by omega) (by omega)]; exact d8
  have i3 : sA I3 (lo + 102 + 15) g (lo + 103) 3 = S 0 3 := by rw [sA_n (by omega), o3 _ (by omega), a3 3 (by decide)]; exact d5.2.2
  have i5' : sA I3 (lo + 102 + 15) g (lo + 102) 5 = p.2.1 := by rw [sA_n (by omega)]; exact i5
  obtain ⟨I4, eI4⟩ : ∃ I4, I4 = u3 (sA I3 (lo + 102 + 15) g) (lo + 102) 5 (p.2.1 + b2i cc) := ⟨_, rfl⟩
  refine ⟨μ3, I4, some (.int (J (S 0 3))), ?_, ?_⟩
  · have s1 : ex PG E lo d 44 32 [some (.ref ((lo + 102))), some (.int (J (sd))), some (.int (J (n))), some (.int (J (p.1))), some (.int (J (k))), q5] [] (mj μ' I') = ex PG E lo d 44 72 [some (.ref ((lo + 102))), some (.int (J (sd))), some (.int (J (n))), some (.int (J ((dwQ p.1 (S 0 3)).1))), some (.int (J (k))), some (.int (J (0)))] [] (mj μ3 I3) := by
      rw [b44_32]
      simp (disch := omega) only [b44_38, b44_43, b44_69, gO_P hP, gR_P4 hP, gR_P6 hP, gR_P7 hP, gR_P8 hP, gR_P9 hP, gR_P10 hP, al_P14 hP, al_P15 hP, al_P16 hP, al_P17 hP, al_P18 hP, al_P19 hP, rd_P14 hP, rd_P15 hP, rd_P16 hP, rd_P17 hP, rd_P18 hP, rd_P19 hP, gR_k p0, gR_k p1, gO_N hNi, gR_N3 hNi, gR_N4 hNi, gR_N5 hNi, gR_N6 hNi, al_N14 hNi, al_N15 hNi, al_N16 hNi, al_N17 hNi, rd_N14 hNi, rd_N15 hNi, rd_N16 hNi, rd_N17 hNi, gR_k d3, gR_k d4, a1, o1, Jl0, Jl1, Jl2, Jl3, Jl4, Jl5, Jl6, Jl7, Jl8, Jl9, Jl10, Jl11, Jl12, Jl13, Jl14, Jl15, Jl16, Jl17, Jl18, Jl19, Jl20, Jl22, Jl24, Jl28, Jl30, Jl31, Jl32, Jl35, Jl36, Jl37, Jl38, Jl39, Jl40, Jl48, Jl57, Jl59, Jl60, Jl61, Jl63, Jl64, Jl68, Jl69, Jl96, Jl97, Jl98, Jl99, Jl100, Jl122, Jl149, Jl150, Jl165, Jl255, Jl511, Jl512, Jl600, Jl610, Jl940, Jl968, Jl999, Jl1134, Jl1152, Jl2048, Jl4608, Jl9999, Jl99999, Jl100000, Jl147456, Jl12345, Jl1103515245, Jl100000000, Jlm1, Jlm2, J_add, J_sub, J_mul, J_lt, J_le, J_eq, J_ite, J_cl, ri_j, wi_j, b2i_z, b2i_o, b2i_zo, Int.cast_ofNat_Int, Int.natCast_zero, Int.natCast_one, if_true, if_false, ite_self, Int.le_refl, J_bit, J_or, J_neg, J_oN, Int.reduceEq, Int.reduceLT, Int.reduceLE, Int.reduceNeg, Int.reduceAdd, Int.reduceSub, Int.reduceMul, Int.reduceToNat, J_shl, J_shr, V_ite, true_or, or_true, nz_j, J_div, J_rem, Option.bind_some, Option.toList_some, Option.toList_none, List.cons_append, List.nil_append, Jl21, Jl23, Jl25, Jl74, Jl83, Jl288, Jl324, Jl1800, Jlm8]
      repeat (first | rw [if_neg (by omega)] | rw [if_pos (by omega)])
    rw [s1, e3, b44_72, e1]
    unfold drS
    rw [← ecc]
    cases cc with
    | false =>
      have ez : I4 = sA I3 (lo + 102 + 15) g := by
        rw [eI4, b2i_f, Int.add_zero, ← i5', u3_sA, u1_id, sA_id]
      rw [ez]
      simp (disch := omega) only [b44_110, b44_117, b44_130, gO_P hP3, gR_P4 hP3, gR_P6 hP3, gR_P7 hP3, gR_P8 hP3, gR_P9 hP3, gR_P10 hP3, al_P14 hP3, al_P15 hP3, al_P16 hP3, al_P17 hP3, al_P18 hP3, al_P19 hP3, rd_P14 hP3, rd_P15 hP3, rd_P16 hP3, rd_P17 hP3, rd_P18 hP3, rd_P19 hP3, gP_P hP3 hlP, wr_P14 hP3 hlP, wr_P15 hP3 hlP, wr_P16 hP3 hlP, wr_P17 hP3 hlP, wr_P18 hP3 hlP, wr_P19 hP3 hlP, gR_k p0', gR_k p1', gO_N hN3, gR_N3 hN3, gR_N4 hN3, gR_N5 hN3, gR_N6 hN3, al_N14 hN3, al_N15 hN3, al_N16 hN3, al_N17 hN3, rd_N14 hN3, rd_N15 hN3, rd_N16 hN3, rd_N17 hN3, gO_S hS3, gR_S2 hS3, gR_S4 hS3, gR_S5 hS3, gR_S6 hS3, gR_S7 hS3, gR_S8 hS3, gR_S9 hS3, gR_S10 hS3, gR_S11 hS3, gR_S12 hS3, gR_S14 hS3, gR_S15 hS3, al_S1 hS3, al_S2 hS3, al_S3 hS3, al_S4 hS3, al_S5 hS3, al_S6 hS3, al_S7 hS3, al_S8 hS3, al_S9 hS3, al_S10 hS3, al_S11 hS3, al_S12 hS3, rd_S1 hS3, rd_S2 hS3, rd_S3 hS3, rd_S4 hS3, rd_S5 hS3, rd_S6 hS3, rd_S7 hS3, rd_S8 hS3, rd_S9 hS3, rd_S10 hS3, rd_S11 hS3, rd_S12 hS3, i3, hac, b2i_f, Jl0, Jl1, Jl2, Jl3, Jl4, Jl5, Jl6, Jl7, Jl8, Jl9, Jl10, Jl11, Jl12, Jl13, Jl14, Jl15, Jl16, Jl17, Jl18, Jl19, Jl20, Jl22, Jl24, Jl28, Jl30, Jl31, Jl32, Jl35, Jl36, Jl37, Jl38, Jl39, Jl40, Jl48, Jl57, Jl59, Jl60, Jl61, Jl63, Jl64, Jl68, Jl69, Jl96, Jl97, Jl98, Jl99, Jl100, Jl122, Jl149, Jl150, Jl165, Jl255, Jl511, Jl512, Jl600, Jl610, Jl940, Jl968, Jl999, Jl1134, Jl1152, Jl2048, Jl4608, Jl9999, Jl99999, Jl100000, Jl147456, Jl12345, Jl1103515245, Jl100000000, Jlm1, Jlm2, J_add, J_sub, J_mul, J_lt, J_le, J_eq, J_ite, J_cl, ri_j, wi_j, b2i_z, b2i_o, b2i_zo, Int.cast_ofNat_Int, Int.natCast_zero, Int.natCast_one, if_true, if_false, ite_self, Int.le_refl, J_bit, J_or, J_neg, J_oN, Int.reduceEq, Int.reduceLT, Int.reduceLE, Int.reduceNeg, Int.reduceAdd, Int.reduceSub, Int.reduceMul, Int.reduceToNat, J_shl, J_shr, V_ite, true_or, or_true, nz_j, J_div, J_rem, Option.bind_some, Option.toList_some, Option.toList_none, List.cons_append, List.nil_append, Jl21, Jl23, Jl25, Jl74, Jl83, Jl288, Jl324, Jl1800, Jlm8]
    | true =>
      rw [b2i_t] at eI4
      simp (disch := omega) only [b44_110, b44_117, b44_120, b44_130, gO_P hP3, gR_P4 hP3, gR_P6 hP3, gR_P7 hP3, gR_P8 hP3, gR_P9 hP3, gR_P10 hP3, al_P14 hP3, al_P15 hP3, al_P16 hP3, al_P17 hP3, al_P18 hP3, al_P19 hP3, rd_P14 hP3, rd_P15 hP3, rd_P16 hP3, rd_P17 hP3, rd_P18 hP3, rd_P19 hP3, gP_P hP3 hlP, wr_P14 hP3 hlP, wr_P15 hP3 hlP, wr_P16 hP3 hlP, wr_P17 hP3 hlP, wr_P18 hP3 hlP, wr_P19 hP3 hlP, gR_k p0', gR_k p1', gO_N hN3, gR_N3 hN3, gR_N4 hN3, gR_N5 hN3, gR_N6 hN3, al_N14 hN3, al_N15 hN3, al_N16 hN3, al_N17 hN3, rd_N14 hN3, rd_N15 hN3, rd_N16 hN3, rd_N17 hN3, gO_S hS3, gR_S2 hS3, gR_S4 hS3, gR_S5 hS3, gR_S6 hS3, gR_S7 hS3, gR_S8 hS3, gR_S9 hS3, gR_S10 hS3, gR_S11 hS3, gR_S12 hS3, gR_S14 hS3, gR_S15 hS3, al_S1 hS3, al_S2 hS3, al_S3 hS3, al_S4 hS3, al_S5 hS3, al_S6 hS3, al_S7 hS3, al_S8 hS3, al_S9 hS3, al_S10 hS3, al_S11 hS3, al_S12 hS3, rd_S1 hS3, rd_S2 hS3, rd_S3 hS3, rd_S4 hS3, rd_S5 hS3, rd_S6 hS3, rd_S7 hS3, rd_S8 hS3, rd_S9 hS3, rd_S10 hS3, rd_S11 hS3, rd_S12 hS3, i3, hac, b2i_t, i5', eI4.symm, Jl0, Jl1, Jl2, Jl3, Jl4, Jl5, Jl6, Jl7, Jl8, Jl9, Jl10, Jl11, Jl12, Jl13, Jl14, Jl15, Jl16, Jl17, Jl18, Jl19, Jl20, Jl22, Jl24, Jl28, Jl30, Jl31, Jl32, Jl35, Jl36, Jl37, Jl38, Jl39, Jl40, Jl48, Jl57, Jl59, Jl60, Jl61, Jl63, Jl64, Jl68, Jl69, Jl96, Jl97, Jl98, Jl99, Jl100, Jl122, Jl149, Jl150, Jl165, Jl255, Jl511, Jl512, Jl600, Jl610, Jl940, Jl968, Jl999, Jl1134, Jl1152, Jl2048, Jl4608, Jl9999, Jl99999, Jl100000, Jl147456, Jl12345, Jl1103515245, Jl100000000, Jlm1, Jlm2, J_add, J_sub, J_mul, J_lt, J_le, J_eq, J_ite, J_cl, ri_j, wi_j, b2i_z, b2i_o, b2i_zo, Int.cast_ofNat_Int, Int.natCast_zero, Int.natCast_one, if_true, if_false, ite_self, Int.le_refl, J_bit, J_or, J_neg, J_oN, Int.reduceEq, Int.reduceLT, Int.reduceLE, Int.reduceNeg, Int.reduceAdd, Int.reduceSub, Int.reduceMul, Int.reduceToNat, J_shl, J_shr, V_ite, true_or, or_true, nz_j, J_div, J_rem, Option.bind_some, Option.toList_some, Option.toList_none, List.cons_append, List.nil_append, Jl21, Jl23, Jl25, Jl74, Jl83, Jl288, Jl324, Jl1800, Jlm8]
  · have cb := b2i_r cc
    have i4 : ∀ a, a ≠ lo + 102 → a ≠ lo + 102 + 15 → I4 a = I3 a := fun a q1 q2 => by rw [eI4, u3_c q1, sA_n q2]
    refine ⟨(d1.t fq3).t (FQ.i (fun a q => i4 a (by omega) (by omega)) (i4 _ (by omega) (by omega)) (i4 _ (by omega) (by omega))), fun a q => ?_, ⟨o2.1.2.2.1, o2.1.2.2.2.1⟩, ⟨⟨?_, ?_, ?_⟩, fun i q1 q2 => ?_, fun f f1 f2 j q1 q2 => ?_⟩, ?_, fun j q1 q2 => ?_, fun j q1 q2 => ?_, ?_⟩
    · rw [i4 a (by omega) (by omega), o3 a (by omega), a2 a (by omega) (by omega) (by omega)]; exact d2 a q
    · rw [i4 _ (by omega) (by omega), o3 _ (by omega), a3 0 (by decide)]; exact d5.1
    · rw [i4 _ (by omega) (by omega), o3 _ (by omega), a3 1 (by decide)]; exact d5.2.1
    · rw [i4 _ (by omega) (by omega), o3 _ (by omega), a3 3 (by decide)]; exact d5.2.2
    · rw [i4 _ (by omega) (by omega), o3 _ (by omega), a2 _ (by omega) (by omega) (by omega)]; exact d6 i q1 q2
    · rw [i4 _ (by omega) (by omega), o3 _ (by omega), a2 _ (by omega) (by omega) (by omega)]; exact d7 f f1 f2 j q1 q2
    · rw [eI4, u3_s, e1]
      unfold drS
      rw [← ecc]
    · rw [eI4, u3_c (by omega), sA_s, b1 j q1 (by omega), if_pos q2, e1]
      unfold drS
      dsimp only
      rw [if_pos ⟨q1, q2⟩]
      have x1 := (d9 j q1 q2).2
      have x2 := hdb j q1 q2
      exact ⟨rfl, by omega⟩
    · rw [eI4, u3_c (by omega), sA_s, b1 j (by omega) q2, if_neg (by omega), o3 _ (by omega), a2 _ (by omega) (by omega) (by omega)]
      exact d10 j q1 q2
    · rw [e1]
      unfold drS
      rw [← ecc]
      dsimp only
      omega
end CLASS
