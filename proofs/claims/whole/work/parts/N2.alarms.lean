/-! THE CLASS: refuge and twice -/
def alI (w : Bool) (f : Int → Int → Int) (a : Int) (p : Int × Int) (n : Int) : Int × Int := fo (fun j p => if p.2 = -1 ∨ f a (a + j) < p.2 then (if w = true then 36 * a + (a + j) else a, f a (a + j)) else p) p n
def alQ (w : Bool) (f : Int → Int → Int) (n : Int) : Int × Int := fo (fun a p => alI w f a p (if w = true then 36 - a else 1)) (0, -1) n
theorem alQ_t {f : Int → Int → Int} : alQ true f 36 = twQ f 36 := rfl
theorem alQ_f {f : Int → Int → Int} {n : Int} : alQ false f n = rfQ (fun a => f a a) n := by
  unfold alQ rfQ
  refine fo_congr _ _ _ (fun a p _ _ => ?_)
  have e : alI false f a p (0 + 1) = if p.2 = -1 ∨ f a (a + 0) < p.2 then (if false = true then 36 * a + (a + 0) else a, f a (a + 0)) else p := fo_s _ _ (by omega)
  rw [Int.add_zero] at e
  exact e
/-- the best one so far -/
def BI (p : Int × Int) (g : Int → Int) : Prop := (p.2 = -1 ∧ g 2 = 100000000) ∨ (0 ≤ p.2 ∧ p.2 ≤ 999 ∧ g 2 = p.2 ∧ g 3 = p.1)
section CLASS
variable {E : (Nat → Value) × (Nat → Nat)} {lo d s l t : Nat} {μ : rM} {I S L T R : Nat → Int → Int} {x y z w k u n h a b : Int} {bb ww : Bool} {p : Int × Int}
theorem fa_st {g : Int → Int} {q : Option Value} {f : Int} (hC : CO μ lo) (ha : 0 ≤ a ∧ a < 36) (hb : 0 ≤ b ∧ b < 36) (hf : 0 ≤ f ∧ f ≤ 999) (hcl : cl E lo d 41 [.ref ((lo + 102)), .int (J (k)), .int (J (a)), .int (J (b))] (mj μ (sA I (lo + 102) g)) = some (some (.int (J f)), mj μ (sA I (lo + 102) g))) (hB : BI p g) : ∃ g', ex PG E lo d 40 82 [some (.ref ((lo + 102))), some (.int (J (k))), some (.int (J ((b2i ww)))), some (.int (J (a))), some (.int (J (z))), some (.int (J (b))), q] [] (mj μ (sA I (lo + 102) g)) = ex PG E lo d 40 126 [some (.ref ((lo + 102))), some (.int (J (k))), some (.int (J ((b2i ww)))), some (.int (J (a))), some (.int (J (z))), some (.int (J (b))), some (.int (J (f)))] [] (mj μ (sA I (lo + 102) g')) ∧ BI (if p.2 = -1 ∨ f < p.2 then (if ww = true then 36 * a + b else a, f) else p) g' := by
  have hP := hC.P102
  have hl : lo ≤ lo + 102 := by omega
  have hg : g 2 = 100000000 ∨ (0 ≤ g 2 ∧ g 2 ≤ 999) := by
    rcases hB with hB | hB
    · exact Or.inl hB.2
    · right; omega
  have hif : (p.2 = -1 ∨ f < p.2) ↔ f < g 2 := by
    unfold BI at hB
    constructor
    · intro h
      rcases hB with hB | hB <;> rcases h with h | h <;> omega
    · intro h
      rcases hB with hB | hB
      · exact Or.inl hB.1
      · right; omega
  by_cases c : f < g 2
  · rw [if_pos (hif.mpr c)]
    cases ww with
    | false =>
      refine ⟨u1 (u1 g 2 f) 3 a, ?_, Or.inr ⟨hf.1, hf.2, ?_, ?_⟩⟩
      · simp (disch := omega) only [b40_82, b40_90, b40_101, b40_107, b40_122, b40_123, gO_P hP, gR_P4 hP, gR_P6 hP, gR_P7 hP, gR_P8 hP, gR_P9 hP, gR_P10 hP, al_P14 hP, al_P15 hP, al_P16 hP, al_P17 hP, al_P18 hP, al_P19 hP, rd_P14 hP, rd_P15 hP, rd_P16 hP, rd_P17 hP, rd_P18 hP, rd_P19 hP, gP_P hP hl, wr_P14 hP hl, wr_P15 hP hl, wr_P16 hP hl, wr_P17 hP hl, wr_P18 hP hl, wr_P19 hP hl, hcl, u3_sA, sA_s, sA_sA, b2i_f, Jl0, Jl1, Jl2, Jl3, Jl4, Jl5, Jl6, Jl7, Jl8, Jl9, Jl10, Jl11, Jl12, Jl13, Jl14, Jl15, Jl16, Jl17, Jl18, Jl19, Jl20, Jl22, Jl24, Jl28, Jl30, Jl31, Jl32, Jl35, Jl36, Jl37, Jl38, Jl39, Jl40, Jl48, Jl57, Jl59, Jl60, Jl61, Jl63, Jl64, Jl68, Jl69, Jl96, Jl97, Jl98, Jl99, Jl100, Jl122, Jl149, Jl150, Jl165, Jl255, Jl511, Jl512, Jl600, Jl610, Jl940, Jl968, Jl999, Jl1134, Jl1152, Jl2048, Jl4608, Jl9999, Jl99999, Jl100000, Jl147456, Jl12345, Jl1103515245, Jl100000000, Jlm1, Jlm2, J_add, J_sub, J_mul, J_lt, J_le, J_eq, J_ite, J_cl, ri_j, wi_j, b2i_z, b2i_o, b2i_zo, Int.cast_ofNat_Int, Int.natCast_zero, Int.natCast_one, if_true, if_false, ite_self, Int.le_refl, J_bit, J_or, J_neg, J_oN, Int.reduceEq, Int.reduceLT, Int.reduceLE, Int.reduceNeg, Int.reduceAdd, Int.reduceSub, Int.reduceMul, Int.reduceToNat, J_shl, J_shr, V_ite, true_or, or_true, nz_j, J_div, J_rem, Option.bind_some, Option.toList_some, Option.toList_none, List.cons_append, List.nil_append, Jl21, Jl23, Jl25, Jl74, Jl83, Jl288, Jl324, Jl1800, Jlm8]
        repeat (first | rw [if_neg (by omega)] | rw [if_pos (by omega)])
      · rw [u1_n (by omega), u1_s]
      · rw [u1_s]; rfl
    | true =>
      refine ⟨u1 (u1 g 2 f) 3 (36 * a + b), ?_, Or.inr ⟨hf.1, hf.2, ?_, ?_⟩⟩
      · simp (disch := omega) only [b40_82, b40_90, b40_101, b40_107, b40_112, b40_123, gO_P hP, gR_P4 hP, gR_P6 hP, gR_P7 hP, gR_P8 hP, gR_P9 hP, gR_P10 hP, al_P14 hP, al_P15 hP, al_P16 hP, al_P17 hP, al_P18 hP, al_P19 hP, rd_P14 hP, rd_P15 hP, rd_P16 hP, rd_P17 hP, rd_P18 hP, rd_P19 hP, gP_P hP hl, wr_P14 hP hl, wr_P15 hP hl, wr_P16 hP hl, wr_P17 hP hl, wr_P18 hP hl, wr_P19 hP hl, hcl, u3_sA, sA_s, sA_sA, b2i_t, Jl0, Jl1, Jl2, Jl3, Jl4, Jl5, Jl6, Jl7, Jl8, Jl9, Jl10, Jl11, Jl12, Jl13, Jl14, Jl15, Jl16, Jl17, Jl18, Jl19, Jl20, Jl22, Jl24, Jl28, Jl30, Jl31, Jl32, Jl35, Jl36, Jl37, Jl38, Jl39, Jl40, Jl48, Jl57, Jl59, Jl60, Jl61, Jl63, Jl64, Jl68, Jl69, Jl96, Jl97, Jl98, Jl99, Jl100, Jl122, Jl149, Jl150, Jl165, Jl255, Jl511, Jl512, Jl600, Jl610, Jl940, Jl968, Jl999, Jl1134, Jl1152, Jl2048, Jl4608, Jl9999, Jl99999, Jl100000, Jl147456, Jl12345, Jl1103515245, Jl100000000, Jlm1, Jlm2, J_add, J_sub, J_mul, J_lt, J_le, J_eq, J_ite, J_cl, ri_j, wi_j, b2i_z, b2i_o, b2i_zo, Int.cast_ofNat_Int, Int.natCast_zero, Int.natCast_one, if_true, if_false, ite_self, Int.le_refl, J_bit, J_or, J_neg, J_oN, Int.reduceEq, Int.reduceLT, Int.reduceLE, Int.reduceNeg, Int.reduceAdd, Int.reduceSub, Int.reduceMul, Int.reduceToNat, J_shl, J_shr, V_ite, true_or, or_true, nz_j, J_div, J_rem, Option.bind_some, Option.toList_some, Option.toList_none, List.cons_append, List.nil_append, Jl21, Jl23, Jl25, Jl74, Jl83, Jl288, Jl324, Jl1800, Jlm8]
        repeat (first | rw [if_neg (by omega)] | rw [if_pos (by omega)])
      · rw [u1_n (by omega), u1_s]
      · rw [u1_s]; rfl
  · rw [if_neg (fun z => c (hif.mp z))]
    refine ⟨g, ?_, hB⟩
    simp (disch := omega) only [b40_82, b40_90, gO_P hP, gR_P4 hP, gR_P6 hP, gR_P7 hP, gR_P8 hP, gR_P9 hP, gR_P10 hP, al_P14 hP, al_P15 hP, al_P16 hP, al_P17 hP, al_P18 hP, al_P19 hP, rd_P14 hP, rd_P15 hP, rd_P16 hP, rd_P17 hP, rd_P18 hP, rd_P19 hP, gP_P hP hl, wr_P14 hP hl, wr_P15 hP hl, wr_P16 hP hl, wr_P17 hP hl, wr_P18 hP hl, wr_P19 hP hl, hcl, sA_s, Jl0, Jl1, Jl2, Jl3, Jl4, Jl5, Jl6, Jl7, Jl8, Jl9, Jl10, Jl11, Jl12, Jl13, Jl14, Jl15, Jl16, Jl17, Jl18, Jl19, Jl20, Jl22, Jl24, Jl28, Jl30, Jl31, Jl32, Jl35, Jl36, Jl37, Jl38, Jl39, Jl40, Jl48, Jl57, Jl59, Jl60, Jl61, Jl63, Jl64, Jl68, Jl69, Jl96, Jl97, Jl98, Jl99, Jl100, Jl122, Jl149, Jl150, Jl165, Jl255, Jl511, Jl512, Jl600, Jl610, Jl940, Jl968, Jl999, Jl1134, Jl1152, Jl2048, Jl4608, Jl9999, Jl99999, Jl100000, Jl147456, Jl12345, Jl1103515245, Jl100000000, Jlm1, Jlm2, J_add, J_sub, J_mul, J_lt, J_le, J_eq, J_ite, J_cl, ri_j, wi_j, b2i_z, b2i_o, b2i_zo, Int.cast_ofNat_Int, Int.natCast_zero, Int.natCast_one, if_true, if_false, ite_self, Int.le_refl, J_bit, J_or, J_neg, J_oN, Int.reduceEq, Int.reduceLT, Int.reduceLE, Int.reduceNeg, Int.reduceAdd, Int.reduceSub, Int.reduceMul, Int.reduceToNat, J_shl, J_shr, V_ite, true_or, or_true, nz_j, J_div, J_rem, Option.bind_some, Option.toList_some, Option.toList_none, List.cons_append, List.nil_append, Jl21, Jl23, Jl25, Jl74, Jl83, Jl288, Jl324, Jl1800, Jlm8]
    repeat (first | rw [if_neg (by omega)] | rw [if_pos (by omega)])
theorem fal_sp (hd : 5 ≤ d) (hC : CO μ lo) (hN : NO μ I lo s l t S L T) (hs : s + 13 ≤ lo + 102 ∧ l + 2 ≤ lo + 102 ∧ t + 5 ≤ lo + 102) (hk : 0 ≤ k ∧ k < S 0 3) : ∃ I2, cl E lo d 40 [.ref ((lo + 102)), .int (J (k)), .int (J ((b2i ww)))] (mj μ I) = some (none, mj μ I2) ∧ (∀ a, (a < lo + 102 ∨ lo + 122 ≤ a) → I2 a = I a) ∧ I2 (lo + 102) 2 = (alQ ww (duA S L T k) 36).2 ∧ I2 (lo + 102) 3 = (alQ ww (duA S L T k) 36).1 := by
  obtain ⟨d, rfl⟩ : ∃ e, d = e + 1 := ⟨d - 1, by omega⟩
  obtain ⟨p0, p1⟩ := hC.p
  have hP := hC.P102
  have hlP : lo ≤ lo + 102 := by omega
  have hNO := hN
  have hNC := hN.1
  obtain ⟨hN, h0, h1, h2, hS, hV, hL, hLV, hT, hTV, hA, hD, hI⟩ := id hNC
  have hl : lo ≤ lo + 84 := by omega
  have v := hV.1
  have lv := hLV.1
  obtain ⟨g, e1, hg⟩ := loop (fun u (g : Int → Int) => ex PG E lo d 40 2 [some (.ref ((lo + 102))), some (.int (J (k))), some (.int (J ((b2i ww)))), some (.int (J (u))), none, none, none] [] (mj μ (sA I (lo + 102 + 19) g))) (fun i g => ∀ v, 0 ≤ v → v < i → g v = bsA S L T k v) (a := 0) (n := 36) (fun i g f1 f2 hg => by
    have hN' : NO μ (sA I (lo + 102 + 19) g) lo s l t S L T := NO_fr hNO hs (fun a h => sA_n (by omega))
    have hrb := rb_sp (E := E) (lo := lo) (d := d) (n := lo + 84) (k := k) (u := i) (by omega) hN'.1 hl hk (by omega)
    have erb : rbS S (sA I (lo + 102 + 19) g (lo + 84 + 14)) (sA I (lo + 102 + 19) g (lo + 84 + 15)) k i = mx (fun j => decide (j ≠ k ∧ S 3 j = S 3 k ∧ S 4 j = S 4 k)) (fun j => rdN S (siS S) T j i) (S 0 3) := fo_congr _ _ _ (fun j x q1 q2 => by
      have e := hN'.rd (k := j) (u := i) ⟨q1, q2⟩ (by omega)
      simp only [e])
    rw [erb] at hrb
    refine ⟨u1 g i (bsA S L T k i), ?_, fun v q1 q2 => ?_⟩
    · have hb := bsA_b (L := L) (T := T) (k := k) hV (u := i) (by omega)
      unfold bsA at *
      by_cases c : L 0 4 = 0
      · rw [if_pos c]
        have e4 : sA I (lo + 102 + 19) g l 4 = 0 := by
          rw [sA_n (by omega), vL_0 hL]
          exact c
        rw [b40_2]
        simp (disch := omega) only [b40_8, b40_38, b40_39, b40_40, gO_P hP, gR_P4 hP, gR_P6 hP, gR_P7 hP, gR_P8 hP, gR_P9 hP, gR_P10 hP, al_P14 hP, al_P15 hP, al_P16 hP, al_P17 hP, al_P18 hP, al_P19 hP, rd_P14 hP, rd_P15 hP, rd_P16 hP, rd_P17 hP, rd_P18 hP, rd_P19 hP, gP_P hP hlP, wr_P14 hP hlP, wr_P15 hP hlP, wr_P16 hP hlP, wr_P17 hP hlP, wr_P18 hP hlP, wr_P19 hP hlP, gR_k p0, gO_N hN, gR_N3 hN, gR_N4 hN, gR_N5 hN, gR_N6 hN, al_N14 hN, al_N15 hN, al_N16 hN, al_N17 hN, rd_N14 hN, rd_N15 hN, rd_N16 hN, rd_N17 hN, gR_k h1, gO_L hL.1, gR_L5 hL.1, al_L1 hL.1, rd_L1 hL.1, e4, u3_sA, sA_s, sA_sA, Jl0, Jl1, Jl2, Jl3, Jl4, Jl5, Jl6, Jl7, Jl8, Jl9, Jl10, Jl11, Jl12, Jl13, Jl14, Jl15, Jl16, Jl17, Jl18, Jl19, Jl20, Jl22, Jl24, Jl28, Jl30, Jl31, Jl32, Jl35, Jl36, Jl37, Jl38, Jl39, Jl40, Jl48, Jl57, Jl59, Jl60, Jl61, Jl63, Jl64, Jl68, Jl69, Jl96, Jl97, Jl98, Jl99, Jl100, Jl122, Jl149, Jl150, Jl165, Jl255, Jl511, Jl512, Jl600, Jl610, Jl940, Jl968, Jl999, Jl1134, Jl1152, Jl2048, Jl4608, Jl9999, Jl99999, Jl100000, Jl147456, Jl12345, Jl1103515245, Jl100000000, Jlm1, Jlm2, J_add, J_sub, J_mul, J_lt, J_le, J_eq, J_ite, J_cl, ri_j, wi_j, b2i_z, b2i_o, b2i_zo, Int.cast_ofNat_Int, Int.natCast_zero, Int.natCast_one, if_true, if_false, ite_self, Int.le_refl, J_bit, J_or, J_neg, J_oN, Int.reduceEq, Int.reduceLT, Int.reduceLE, Int.reduceNeg, Int.reduceAdd, Int.reduceSub, Int.reduceMul, Int.reduceToNat, J_shl, J_shr, V_ite, true_or, or_true, nz_j, J_div, J_rem, Option.bind_some, Option.toList_some, Option.toList_none, List.cons_append, List.nil_append, Jl21, Jl23, Jl25, Jl74, Jl83, Jl288, Jl324, Jl1800, Jlm8]
        repeat (first | rw [if_neg (by omega)] | rw [if_pos (by omega)])
      · rw [if_neg c]
        have e4 : sA I (lo + 102 + 19) g l 4 = L 0 4 := by
          rw [sA_n (by omega), vL_0 hL]
        rw [b40_2]
        simp (disch := omega) only [b40_8, b40_26, b40_35, b40_39, b40_40, gO_P hP, gR_P4 hP, gR_P6 hP, gR_P7 hP, gR_P8 hP, gR_P9 hP, gR_P10 hP, al_P14 hP, al_P15 hP, al_P16 hP, al_P17 hP, al_P18 hP, al_P19 hP, rd_P14 hP, rd_P15 hP, rd_P16 hP, rd_P17 hP, rd_P18 hP, rd_P19 hP, gP_P hP hlP, wr_P14 hP hlP, wr_P15 hP hlP, wr_P16 hP hlP, wr_P17 hP hlP, wr_P18 hP hlP, wr_P19 hP hlP, gR_k p0, gO_N hN, gR_N3 hN, gR_N4 hN, gR_N5 hN, gR_N6 hN, al_N14 hN, al_N15 hN, al_N16 hN, al_N17 hN, rd_N14 hN, rd_N15 hN, rd_N16 hN, rd_N17 hN, gR_k h1, gO_L hL.1, gR_L5 hL.1, al_L1 hL.1, rd_L1 hL.1, e4, c, hrb, u3_sA, sA_s, sA_sA, Jl0, Jl1, Jl2, Jl3, Jl4, Jl5, Jl6, Jl7, Jl8, Jl9, Jl10, Jl11, Jl12, Jl13, Jl14, Jl15, Jl16, Jl17, Jl18, Jl19, Jl20, Jl22, Jl24, Jl28, Jl30, Jl31, Jl32, Jl35, Jl36, Jl37, Jl38, Jl39, Jl40, Jl48, Jl57, Jl59, Jl60, Jl61, Jl63, Jl64, Jl68, Jl69, Jl96, Jl97, Jl98, Jl99, Jl100, Jl122, Jl149, Jl150, Jl165, Jl255, Jl511, Jl512, Jl600, Jl610, Jl940, Jl968, Jl999, Jl1134, Jl1152, Jl2048, Jl4608, Jl9999, Jl99999, Jl100000, Jl147456, Jl12345, Jl1103515245, Jl100000000, Jlm1, Jlm2, J_add, J_sub, J_mul, J_lt, J_le, J_eq, J_ite, J_cl, ri_j, wi_j, b2i_z, b2i_o, b2i_zo, Int.cast_ofNat_Int, Int.natCast_zero, Int.natCast_one, if_true, if_false, ite_self, Int.le_refl, J_bit, J_or, J_neg, J_oN, Int.reduceEq, Int.reduceLT, Int.reduceLE, Int.reduceNeg, Int.reduceAdd, Int.reduceSub, Int.reduceMul, Int.reduceToNat, J_shl, J_shr, V_ite, true_or, or_true, nz_j, J_div, J_rem, Option.bind_some, Option.toList_some, Option.toList_none, List.cons_append, List.nil_append, Jl21, Jl23, Jl25, Jl74, Jl83, Jl288, Jl324, Jl1800, Jlm8]
        repeat (first | rw [if_neg (by omega)] | rw [if_pos (by omega)])
    · by_cases c : v = i
      · rw [c, u1_s]
      · rw [u1_n c]
        exact hg v q1 (by omega)) (by omega) (I (lo + 102 + 19)) (fun v q1 q2 => by omega)
  rw [sA_id] at e1
  obtain ⟨I1, eI1⟩ : ∃ I1, I1 = sA I (lo + 102 + 19) g := ⟨_, rfl⟩
  rw [← eI1] at e1
  have hf : ∀ a b, 0 ≤ duA S L T k a b ∧ duA S L T k a b ≤ 999 := fun a b => dueT_b hV hLV hTV hk (fun j u z1 z2 z3 z4 => rdT_b hV ⟨z1, z2⟩ ⟨z3, z4⟩ (siS_b hV))
  have hcl : ∀ g a b, 0 ≤ a ∧ a < 36 → 0 ≤ b ∧ b < 36 → cl E lo d 41 [.ref ((lo + 102)), .int (J (k)), .int (J (a)), .int (J (b))] (mj μ (sA I1 (lo + 102) g)) = some (some (.int (J (duA S L T k a b))), mj μ (sA I1 (lo + 102) g)) := fun g' a b ha hb => by
    refine dba_sp (E := E) (lo := lo) (d := d) (by omega) hC (NO_fr hNO hs (fun a h => by rw [sA_n (by omega), eI1, sA_n (by omega)])) hk ha hb (fun u q1 q2 => ?_)
    rw [sA_n (by omega), eI1, sA_s]
    exact hg u q1 q2
  obtain ⟨ff, eff⟩ : ∃ ff, ff = duA S L T k := ⟨_, rfl⟩
  rw [← eff] at hf hcl ⊢
  obtain ⟨⟨g2, q4, q5, q6⟩, e2, hB, hB2⟩ := loop (fun i (t : (Int → Int) × Option Value × Option Value × Option Value) => ex PG E lo d 40 54 [some (.ref ((lo + 102))), some (.int (J (k))), some (.int (J ((b2i ww)))), some (.int (J (i))), t.2.1, t.2.2.1, t.2.2.2] [] (mj μ (sA I1 (lo + 102) t.1))) (fun i t => BI (alQ ww ff i) t.1 ∧ (0 < i → (alQ ww ff i).2 ≠ -1)) (a := 0) (n := 36) (fun i t f1 f2 hP' => by
    obtain ⟨g1, q4, q5, q6⟩ := t
    obtain ⟨hB, _⟩ := hP'
    dsimp only at hB ⊢
    obtain ⟨n, en⟩ : ∃ n, n = (if ww = true then 36 - i else 1) := ⟨_, rfl⟩
    have hn : 1 ≤ n ∧ i + n ≤ 36 := by rw [en]; split <;> omega
    have es : alQ ww ff (i + 1) = alI ww ff i (alQ ww ff i) n := by rw [en]; exact fo_s _ _ f1
    obtain ⟨⟨g3, q7⟩, e3, hB3, hB4⟩ := loop (fun j (t : (Int → Int) × Option Value) => ex PG E lo d 40 75 [some (.ref ((lo + 102))), some (.int (J (k))), some (.int (J ((b2i ww)))), some (.int (J (i))), some (.int (J ((i + n - 1)))), some (.int (J ((i + j)))), t.2] [] (mj μ (sA I1 (lo + 102) t.1))) (fun j t => BI (alI ww ff i (alQ ww ff i) j) t.1 ∧ (0 < j → (alI ww ff i (alQ ww ff i) j).2 ≠ -1)) (a := 0) (n := n) (fun j t g1 g2 hP' => by
      obtain ⟨g3, q7⟩ := t
      obtain ⟨hB, _⟩ := hP'
      dsimp only at hB ⊢
      have es : alI ww ff i (alQ ww ff i) (j + 1) = if (alI ww ff i (alQ ww ff i) j).2 = -1 ∨ ff i (i + j) < (alI ww ff i (alQ ww ff i) j).2 then (if ww = true then 36 * i + (i + j) else i, ff i (i + j)) else alI ww ff i (alQ ww ff i) j := fo_s _ _ g1
      have hfv := hf i (i + j)
      obtain ⟨g4, e4, hB4⟩ := fa_st (E := E) (lo := lo) (d := d) (I := I1) (ww := ww) (z := i + n - 1) (q := q7) hC (a := i) (b := i + j) (by omega) (by omega) hfv (hcl g3 i (i + j) (by omega) (by omega)) hB
      rw [← es] at hB4
      refine ⟨(g4, some (.int (J (ff i (i + j))))), ?_, hB4, fun _ => ?_⟩
      · rw [b40_75]
        simp (disch := omega) only [Jl0, Jl1, Jl2, Jl3, Jl4, Jl5, Jl6, Jl7, Jl8, Jl9, Jl10, Jl11, Jl12, Jl13, Jl14, Jl15, Jl16, Jl17, Jl18, Jl19, Jl20, Jl22, Jl24, Jl28, Jl30, Jl31, Jl32, Jl35, Jl36, Jl37, Jl38, Jl39, Jl40, Jl48, Jl57, Jl59, Jl60, Jl61, Jl63, Jl64, Jl68, Jl69, Jl96, Jl97, Jl98, Jl99, Jl100, Jl122, Jl149, Jl150, Jl165, Jl255, Jl511, Jl512, Jl600, Jl610, Jl940, Jl968, Jl999, Jl1134, Jl1152, Jl2048, Jl4608, Jl9999, Jl99999, Jl100000, Jl147456, Jl12345, Jl1103515245, Jl100000000, Jlm1, Jlm2, J_add, J_sub, J_mul, J_lt, J_le, J_eq, J_ite, J_cl, ri_j, wi_j, b2i_z, b2i_o, b2i_zo, Int.cast_ofNat_Int, Int.natCast_zero, Int.natCast_one, if_true, if_false, ite_self, Int.le_refl, J_bit, J_or, J_neg, J_oN, Int.reduceEq, Int.reduceLT, Int.reduceLE, Int.reduceNeg, Int.reduceAdd, Int.reduceSub, Int.reduceMul, Int.reduceToNat, J_shl, J_shr, V_ite, true_or, or_true, nz_j, J_div, J_rem, Option.bind_some, Option.toList_some, Option.toList_none, List.cons_append, List.nil_append, Jl21, Jl23, Jl25, Jl74, Jl83, Jl288, Jl324, Jl1800, Jlm8]
        rw [if_neg (by omega), e4]
        simp (disch := omega) only [b40_126, Int.add_assoc, Jl0, Jl1, Jl2, Jl3, Jl4, Jl5, Jl6, Jl7, Jl8, Jl9, Jl10, Jl11, Jl12, Jl13, Jl14, Jl15, Jl16, Jl17, Jl18, Jl19, Jl20, Jl22, Jl24, Jl28, Jl30, Jl31, Jl32, Jl35, Jl36, Jl37, Jl38, Jl39, Jl40, Jl48, Jl57, Jl59, Jl60, Jl61, Jl63, Jl64, Jl68, Jl69, Jl96, Jl97, Jl98, Jl99, Jl100, Jl122, Jl149, Jl150, Jl165, Jl255, Jl511, Jl512, Jl600, Jl610, Jl940, Jl968, Jl999, Jl1134, Jl1152, Jl2048, Jl4608, Jl9999, Jl99999, Jl100000, Jl147456, Jl12345, Jl1103515245, Jl100000000, Jlm1, Jlm2, J_add, J_sub, J_mul, J_lt, J_le, J_eq, J_ite, J_cl, ri_j, wi_j, b2i_z, b2i_o, b2i_zo, Int.cast_ofNat_Int, Int.natCast_zero, Int.natCast_one, if_true, if_false, ite_self, Int.le_refl, J_bit, J_or, J_neg, J_oN, Int.reduceEq, Int.reduceLT, Int.reduceLE, Int.reduceNeg, Int.reduceAdd, Int.reduceSub, Int.reduceMul, Int.reduceToNat, J_shl, J_shr, V_ite, true_or, or_true, nz_j, J_div, J_rem, Option.bind_some, Option.toList_some, Option.toList_none, List.cons_append, List.nil_append, Jl21, Jl23, Jl25, Jl74, Jl83, Jl288, Jl324, Jl1800, Jlm8]
      · rw [es]
        split
        · dsimp only; omega
        · rename_i h
          exact fun z => h (Or.inl z)) (by omega) (g1, q6) ⟨hB, fun z => by omega⟩
    dsimp only at e3 hB3 hB4
    rw [Int.add_zero] at e3
    refine ⟨(g3, some (.int (J (i + n - 1))), some (.int (J (i + n))), q7), ?_, ?_, ?_⟩
    · rw [b40_54]
      have s1 : ex PG E lo d 40 60 [some (.ref ((lo + 102))), some (.int (J (k))), some (.int (J ((b2i ww)))), some (.int (J (i))), q4, q5, q6] [] (mj μ (sA I1 (lo + 102) g1)) = ex PG E lo d 40 75 [some (.ref ((lo + 102))), some (.int (J (k))), some (.int (J ((b2i ww)))), some (.int (J (i))), some (.int (J ((i + n - 1)))), some (.int (J (i))), q6] [] (mj μ (sA I1 (lo + 102) g1)) := by
        cases ww with
        | false =>
          rw [if_neg (by decide)] at en
          rw [show i + n - 1 = i by omega]
          simp (disch := omega) only [b40_60, b40_69, b40_70, b2i_f, Jl0, Jl1, Jl2, Jl3, Jl4, Jl5, Jl6, Jl7, Jl8, Jl9, Jl10, Jl11, Jl12, Jl13, Jl14, Jl15, Jl16, Jl17, Jl18, Jl19, Jl20, Jl22, Jl24, Jl28, Jl30, Jl31, Jl32, Jl35, Jl36, Jl37, Jl38, Jl39, Jl40, Jl48, Jl57, Jl59, Jl60, Jl61, Jl63, Jl64, Jl68, Jl69, Jl96, Jl97, Jl98, Jl99, Jl100, Jl122, Jl149, Jl150, Jl165, Jl255, Jl511, Jl512, Jl600, Jl610, Jl940, Jl968, Jl999, Jl1134, Jl1152, Jl2048, Jl4608, Jl9999, Jl99999, Jl100000, Jl147456, Jl12345, Jl1103515245, Jl100000000, Jlm1, Jlm2, J_add, J_sub, J_mul, J_lt, J_le, J_eq, J_ite, J_cl, ri_j, wi_j, b2i_z, b2i_o, b2i_zo, Int.cast_ofNat_Int, Int.natCast_zero, Int.natCast_one, if_true, if_false, ite_self, Int.le_refl, J_bit, J_or, J_neg, J_oN, Int.reduceEq, Int.reduceLT, Int.reduceLE, Int.reduceNeg, Int.reduceAdd, Int.reduceSub, Int.reduceMul, Int.reduceToNat, J_shl, J_shr, V_ite, true_or, or_true, nz_j, J_div, J_rem, Option.bind_some, Option.toList_some, Option.toList_none, List.cons_append, List.nil_append, Jl21, Jl23, Jl25, Jl74, Jl83, Jl288, Jl324, Jl1800, Jlm8]
        | true =>
          rw [if_pos rfl] at en
          rw [show i + n - 1 = 35 by omega]
          simp (disch := omega) only [b40_60, b40_64, b40_70, b2i_t, Jl0, Jl1, Jl2, Jl3, Jl4, Jl5, Jl6, Jl7, Jl8, Jl9, Jl10, Jl11, Jl12, Jl13, Jl14, Jl15, Jl16, Jl17, Jl18, Jl19, Jl20, Jl22, Jl24, Jl28, Jl30, Jl31, Jl32, Jl35, Jl36, Jl37, Jl38, Jl39, Jl40, Jl48, Jl57, Jl59, Jl60, Jl61, Jl63, Jl64, Jl68, Jl69, Jl96, Jl97, Jl98, Jl99, Jl100, Jl122, Jl149, Jl150, Jl165, Jl255, Jl511, Jl512, Jl600, Jl610, Jl940, Jl968, Jl999, Jl1134, Jl1152, Jl2048, Jl4608, Jl9999, Jl99999, Jl100000, Jl147456, Jl12345, Jl1103515245, Jl100000000, Jlm1, Jlm2, J_add, J_sub, J_mul, J_lt, J_le, J_eq, J_ite, J_cl, ri_j, wi_j, b2i_z, b2i_o, b2i_zo, Int.cast_ofNat_Int, Int.natCast_zero, Int.natCast_one, if_true, if_false, ite_self, Int.le_refl, J_bit, J_or, J_neg, J_oN, Int.reduceEq, Int.reduceLT, Int.reduceLE, Int.reduceNeg, Int.reduceAdd, Int.reduceSub, Int.reduceMul, Int.reduceToNat, J_shl, J_shr, V_ite, true_or, or_true, nz_j, J_div, J_rem, Option.bind_some, Option.toList_some, Option.toList_none, List.cons_append, List.nil_append, Jl21, Jl23, Jl25, Jl74, Jl83, Jl288, Jl324, Jl1800, Jlm8]
      simp (disch := omega) only [Jl0, Jl1, Jl2, Jl3, Jl4, Jl5, Jl6, Jl7, Jl8, Jl9, Jl10, Jl11, Jl12, Jl13, Jl14, Jl15, Jl16, Jl17, Jl18, Jl19, Jl20, Jl22, Jl24, Jl28, Jl30, Jl31, Jl32, Jl35, Jl36, Jl37, Jl38, Jl39, Jl40, Jl48, Jl57, Jl59, Jl60, Jl61, Jl63, Jl64, Jl68, Jl69, Jl96, Jl97, Jl98, Jl99, Jl100, Jl122, Jl149, Jl150, Jl165, Jl255, Jl511, Jl512, Jl600, Jl610, Jl940, Jl968, Jl999, Jl1134, Jl1152, Jl2048, Jl4608, Jl9999, Jl99999, Jl100000, Jl147456, Jl12345, Jl1103515245, Jl100000000, Jlm1, Jlm2, J_add, J_sub, J_mul, J_lt, J_le, J_eq, J_ite, J_cl, ri_j, wi_j, b2i_z, b2i_o, b2i_zo, Int.cast_ofNat_Int, Int.natCast_zero, Int.natCast_one, if_true, if_false, ite_self, Int.le_refl, J_bit, J_or, J_neg, J_oN, Int.reduceEq, Int.reduceLT, Int.reduceLE, Int.reduceNeg, Int.reduceAdd, Int.reduceSub, Int.reduceMul, Int.reduceToNat, J_shl, J_shr, V_ite, true_or, or_true, nz_j, J_div, J_rem, Option.bind_some, Option.toList_some, Option.toList_none, List.cons_append, List.nil_append, Jl21, Jl23, Jl25, Jl74, Jl83, Jl288, Jl324, Jl1800, Jlm8]
      rw [if_neg (by omega), s1, e3, b40_75]
      simp (disch := omega) only [b40_132, Jl0, Jl1, Jl2, Jl3, Jl4, Jl5, Jl6, Jl7, Jl8, Jl9, Jl10, Jl11, Jl12, Jl13, Jl14, Jl15, Jl16, Jl17, Jl18, Jl19, Jl20, Jl22, Jl24, Jl28, Jl30, Jl31, Jl32, Jl35, Jl36, Jl37, Jl38, Jl39, Jl40, Jl48, Jl57, Jl59, Jl60, Jl61, Jl63, Jl64, Jl68, Jl69, Jl96, Jl97, Jl98, Jl99, Jl100, Jl122, Jl149, Jl150, Jl165, Jl255, Jl511, Jl512, Jl600, Jl610, Jl940, Jl968, Jl999, Jl1134, Jl1152, Jl2048, Jl4608, Jl9999, Jl99999, Jl100000, Jl147456, Jl12345, Jl1103515245, Jl100000000, Jlm1, Jlm2, J_add, J_sub, J_mul, J_lt, J_le, J_eq, J_ite, J_cl, ri_j, wi_j, b2i_z, b2i_o, b2i_zo, Int.cast_ofNat_Int, Int.natCast_zero, Int.natCast_one, if_true, if_false, ite_self, Int.le_refl, J_bit, J_or, J_neg, J_oN, Int.reduceEq, Int.reduceLT, Int.reduceLE, Int.reduceNeg, Int.reduceAdd, Int.reduceSub, Int.reduceMul, Int.reduceToNat, J_shl, J_shr, V_ite, true_or, or_true, nz_j, J_div, J_rem, Option.bind_some, Option.toList_some, Option.toList_none, List.cons_append, List.nil_append, Jl21, Jl23, Jl25, Jl74, Jl83, Jl288, Jl324, Jl1800, Jlm8]
      rw [if_pos (by omega)]
    · rw [es]; exact hB3
    · rw [es]; exact fun _ => hB4 (by omega)) (by omega) (u1 (I1 (lo + 102)) 2 100000000, none, none, none) ⟨Or.inl ⟨rfl, by dsimp only; exact u1_s⟩, fun z => by omega⟩
  refine ⟨sA I1 (lo + 102) g2, ?_, fun a h => ?_, ?_, ?_⟩
  · simp (disch := omega) only [b40_0, e40, Jl0, Jl1, Jl2, Jl3, Jl4, Jl5, Jl6, Jl7, Jl8, Jl9, Jl10, Jl11, Jl12, Jl13, Jl14, Jl15, Jl16, Jl17, Jl18, Jl19, Jl20, Jl22, Jl24, Jl28, Jl30, Jl31, Jl32, Jl35, Jl36, Jl37, Jl38, Jl39, Jl40, Jl48, Jl57, Jl59, Jl60, Jl61, Jl63, Jl64, Jl68, Jl69, Jl96, Jl97, Jl98, Jl99, Jl100, Jl122, Jl149, Jl150, Jl165, Jl255, Jl511, Jl512, Jl600, Jl610, Jl940, Jl968, Jl999, Jl1134, Jl1152, Jl2048, Jl4608, Jl9999, Jl99999, Jl100000, Jl147456, Jl12345, Jl1103515245, Jl100000000, Jlm1, Jlm2, J_add, J_sub, J_mul, J_lt, J_le, J_eq, J_ite, J_cl, ri_j, wi_j, b2i_z, b2i_o, b2i_zo, Int.cast_ofNat_Int, Int.natCast_zero, Int.natCast_one, if_true, if_false, ite_self, Int.le_refl, J_bit, J_or, J_neg, J_oN, Int.reduceEq, Int.reduceLT, Int.reduceLE, Int.reduceNeg, Int.reduceAdd, Int.reduceSub, Int.reduceMul, Int.reduceToNat, J_shl, J_shr, V_ite, true_or, or_true, nz_j, J_div, J_rem, Option.bind_some, Option.toList_some, Option.toList_none, List.cons_append, List.nil_append, Jl21, Jl23, Jl25, Jl74, Jl83, Jl288, Jl324, Jl1800, Jlm8]
    refine e1.trans ?_
    rw [b40_2]
    simp (disch := omega) only [b40_46, b40_52, gO_P hP, gR_P4 hP, gR_P6 hP, gR_P7 hP, gR_P8 hP, gR_P9 hP, gR_P10 hP, al_P14 hP, al_P15 hP, al_P16 hP, al_P17 hP, al_P18 hP, al_P19 hP, rd_P14 hP, rd_P15 hP, rd_P16 hP, rd_P17 hP, rd_P18 hP, rd_P19 hP, gP_P hP hlP, wr_P14 hP hlP, wr_P15 hP hlP, wr_P16 hP hlP, wr_P17 hP hlP, wr_P18 hP hlP, wr_P19 hP hlP, u3_sA, Jl0, Jl1, Jl2, Jl3, Jl4, Jl5, Jl6, Jl7, Jl8, Jl9, Jl10, Jl11, Jl12, Jl13, Jl14, Jl15, Jl16, Jl17, Jl18, Jl19, Jl20, Jl22, Jl24, Jl28, Jl30, Jl31, Jl32, Jl35, Jl36, Jl37, Jl38, Jl39, Jl40, Jl48, Jl57, Jl59, Jl60, Jl61, Jl63, Jl64, Jl68, Jl69, Jl96, Jl97, Jl98, Jl99, Jl100, Jl122, Jl149, Jl150, Jl165, Jl255, Jl511, Jl512, Jl600, Jl610, Jl940, Jl968, Jl999, Jl1134, Jl1152, Jl2048, Jl4608, Jl9999, Jl99999, Jl100000, Jl147456, Jl12345, Jl1103515245, Jl100000000, Jlm1, Jlm2, J_add, J_sub, J_mul, J_lt, J_le, J_eq, J_ite, J_cl, ri_j, wi_j, b2i_z, b2i_o, b2i_zo, Int.cast_ofNat_Int, Int.natCast_zero, Int.natCast_one, if_true, if_false, ite_self, Int.le_refl, J_bit, J_or, J_neg, J_oN, Int.reduceEq, Int.reduceLT, Int.reduceLE, Int.reduceNeg, Int.reduceAdd, Int.reduceSub, Int.reduceMul, Int.reduceToNat, J_shl, J_shr, V_ite, true_or, or_true, nz_j, J_div, J_rem, Option.bind_some, Option.toList_some, Option.toList_none, List.cons_append, List.nil_append, Jl21, Jl23, Jl25, Jl74, Jl83, Jl288, Jl324, Jl1800, Jlm8]
    refine Eq.trans ?_ (e2.trans ?_)
    · rfl
    · dsimp only
      rw [b40_54]
      simp (disch := omega) only [b40_138, Jl0, Jl1, Jl2, Jl3, Jl4, Jl5, Jl6, Jl7, Jl8, Jl9, Jl10, Jl11, Jl12, Jl13, Jl14, Jl15, Jl16, Jl17, Jl18, Jl19, Jl20, Jl22, Jl24, Jl28, Jl30, Jl31, Jl32, Jl35, Jl36, Jl37, Jl38, Jl39, Jl40, Jl48, Jl57, Jl59, Jl60, Jl61, Jl63, Jl64, Jl68, Jl69, Jl96, Jl97, Jl98, Jl99, Jl100, Jl122, Jl149, Jl150, Jl165, Jl255, Jl511, Jl512, Jl600, Jl610, Jl940, Jl968, Jl999, Jl1134, Jl1152, Jl2048, Jl4608, Jl9999, Jl99999, Jl100000, Jl147456, Jl12345, Jl1103515245, Jl100000000, Jlm1, Jlm2, J_add, J_sub, J_mul, J_lt, J_le, J_eq, J_ite, J_cl, ri_j, wi_j, b2i_z, b2i_o, b2i_zo, Int.cast_ofNat_Int, Int.natCast_zero, Int.natCast_one, if_true, if_false, ite_self, Int.le_refl, J_bit, J_or, J_neg, J_oN, Int.reduceEq, Int.reduceLT, Int.reduceLE, Int.reduceNeg, Int.reduceAdd, Int.reduceSub, Int.reduceMul, Int.reduceToNat, J_shl, J_shr, V_ite, true_or, or_true, nz_j, J_div, J_rem, Option.bind_some, Option.toList_some, Option.toList_none, List.cons_append, List.nil_append, Jl21, Jl23, Jl25, Jl74, Jl83, Jl288, Jl324, Jl1800, Jlm8]
  · rw [sA_n (by omega), eI1, sA_n (by omega)]
  · rw [sA_s]
    dsimp only at hB hB2
    rcases hB with hB | hB
    · exact absurd hB.1 (hB2 (by omega))
    · exact hB.2.2.1
  · rw [sA_s]
    dsimp only at hB hB2
    rcases hB with hB | hB
    · exact absurd hB.1 (hB2 (by omega))
    · exact hB.2.2.2
theorem c_refuge (hd : 8 ≤ d) (hK : CK μ I lo) (hx : i32 x ∧ i32 y ∧ i32 z ∧ i32 k) (eS : S = rws I (lo + 8 + 20 * x.toNat)) (eL : L = rws I (lo + 21 + 20 * y.toNat)) (eR : R = rws I (lo + 23 + 20 * z.toNat)) (eT : T = wlS S R (rws I (lo + 74)) 40) : CQ lo μ I (if o3b I lo x y z = true ∧ (0 ≤ k ∧ k < S 0 3) then (if bb = true then (rfQ (fun a => duA S L T k a (-1)) 36).1 else (rfQ (fun a => duA S L T k a (-1)) 36).2) else -1) (cl E lo d 139 [.ref lo, .int (J (x)), .int (J (y)), .int (J (z)), .int (J (k)), .int (J ((b2i bb)))] (mj μ I)) := by
  obtain ⟨d, rfl⟩ : ∃ e, d = e + 1 := ⟨d - 1, by omega⟩
  have hx' := hx
  unfold i32 at hx'
  have hC := hK.1
  obtain ⟨hO, f0, f1, f2, f3, f4, f5, f6, f7, f8, hD⟩ := CO.o hC
  have hil := isl_sp (E := E) (lo := lo) (d := d) (I := I) (x := x) (k := k) (by omega) hC (hK.2.1.1 0 (by omega) (by omega)) (hK.2.1.2.1 x) ⟨hx.1, hx.2.2.2⟩
  rw [← eS] at hil
  by_cases ck : (0 ≤ x ∧ x < I (lo + 1 + 2) 0) ∧ 0 ≤ k ∧ k < S 0 3
  · rw [decide_eq_true ck] at hil
    have hc0 := hK.2.1.1 0 (by omega) (by omega)
    have hc1 := hK.2.1.1 1 (by omega) (by omega)
    by_cases c3 : o3c I lo x y z
    · rw [if_pos ⟨o3b_y c3, ck.2⟩]
      obtain ⟨μ2, I2, o1, o2, o3, hV5, hLV, hRV, hTV, hTZ⟩ := iop (E := E) (d := d) (by omega) hK ⟨hx.1, hx.2.1, hx.2.2.1⟩ eS eL eR eT c3
      have hC2 := o3.C hC
      have hy := c3.2.1
      obtain ⟨I3, p1, p2, p3, p4⟩ := fal_sp (E := E) (lo := lo) (d := d) (ww := false) (by omega) hC2 o2 (by omega) ck.2
      rw [alQ_f] at p3 p4
      have er : rfQ (fun a => duA S L T k a a) 36 = rfQ (fun a => duA S L T k a (-1)) 36 := by rw [show (fun a => duA S L T k a a) = fun a => duA S L T k a (-1) from funext (fun a => duA_1 hV5.1 ck.2)]
      rw [er] at p3 p4
      rw [b2i_f] at p1
      refine ⟨μ2, I3, ?_, o3.t (FQ.i (fun a h => p2 a (by omega)) (p2 _ (by omega)) (p2 _ (by omega)))⟩
      have s1 : cl E lo (d + 1) 139 [.ref lo, .int (J x), .int (J y), .int (J z), .int (J k), .int (J (b2i bb))] (mj μ I) = ex PG E lo d 139 22 [some (.ref lo), some (.int (J (x))), some (.int (J (y))), some (.int (J (z))), some (.int (J (k))), some (.int (J ((b2i bb))))] [] (mj μ2 I2) := by
        simp (disch := omega) only [b139_0, b139_7, b139_10, b139_17, e139, gO_k hO, gR_k f0, gR_k f1, gR_k f2, gR_k f3, gR_k f4, gR_k f5, gR_k f6, gR_k f7, gR_k f8, gO_D hD, gR_D0 hD, gR_D4 hD, gR_D5 hD, gR_D6 hD, gR_D7 hD, gR_D8 hD, al_D1 hD, al_D2 hD, al_D3 hD, al_D4 hD, al_D5 hD, al_D6 hD, rd_D1 hD, rd_D2 hD, rd_D3 hD, rd_D4 hD, rd_D5 hD, rd_D6 hD, hil, o1, b2i_t, Jl0, Jl1, Jl2, Jl3, Jl4, Jl5, Jl6, Jl7, Jl8, Jl9, Jl10, Jl11, Jl12, Jl13, Jl14, Jl15, Jl16, Jl17, Jl18, Jl19, Jl20, Jl22, Jl24, Jl28, Jl30, Jl31, Jl32, Jl35, Jl36, Jl37, Jl38, Jl39, Jl40, Jl48, Jl57, Jl59, Jl60, Jl61, Jl63, Jl64, Jl68, Jl69, Jl96, Jl97, Jl98, Jl99, Jl100, Jl122, Jl149, Jl150, Jl165, Jl255, Jl511, Jl512, Jl600, Jl610, Jl940, Jl968, Jl999, Jl1134, Jl1152, Jl2048, Jl4608, Jl9999, Jl99999, Jl100000, Jl147456, Jl12345, Jl1103515245, Jl100000000, Jlm1, Jlm2, J_add, J_sub, J_mul, J_lt, J_le, J_eq, J_ite, J_cl, ri_j, wi_j, b2i_z, b2i_o, b2i_zo, Int.cast_ofNat_Int, Int.natCast_zero, Int.natCast_one, if_true, if_false, ite_self, Int.le_refl, J_bit, J_or, J_neg, J_oN, Int.reduceEq, Int.reduceLT, Int.reduceLE, Int.reduceNeg, Int.reduceAdd, Int.reduceSub, Int.reduceMul, Int.reduceToNat, J_shl, J_shr, V_ite, true_or, or_true, nz_j, J_div, J_rem, Option.bind_some, Option.toList_some, Option.toList_none, List.cons_append, List.nil_append, Jl21, Jl23, Jl25, Jl74, Jl83, Jl288, Jl324, Jl1800, Jlm8]
      rw [s1]
      obtain ⟨hO, f0, f1, f2, f3, f4, f5, f6, f7, f8, hD⟩ := CO.o hC2
      have hP := hC2.P102
      cases bb with
      | false =>
        rw [if_neg (by decide)]
        simp (disch := omega) only [b139_22, b139_32, b139_47, b139_54, gO_k hO, gR_k f0, gR_k f1, gR_k f2, gR_k f3, gR_k f4, gR_k f5, gR_k f6, gR_k f7, gR_k f8, gO_D hD, gR_D0 hD, gR_D4 hD, gR_D5 hD, gR_D6 hD, gR_D7 hD, gR_D8 hD, al_D1 hD, al_D2 hD, al_D3 hD, al_D4 hD, al_D5 hD, al_D6 hD, rd_D1 hD, rd_D2 hD, rd_D3 hD, rd_D4 hD, rd_D5 hD, rd_D6 hD, gO_P hP, gR_P4 hP, gR_P6 hP, gR_P7 hP, gR_P8 hP, gR_P9 hP, gR_P10 hP, al_P14 hP, al_P15 hP, al_P16 hP, al_P17 hP, al_P18 hP, al_P19 hP, rd_P14 hP, rd_P15 hP, rd_P16 hP, rd_P17 hP, rd_P18 hP, rd_P19 hP, p1, p3, b2i_f, Jl0, Jl1, Jl2, Jl3, Jl4, Jl5, Jl6, Jl7, Jl8, Jl9, Jl10, Jl11, Jl12, Jl13, Jl14, Jl15, Jl16, Jl17, Jl18, Jl19, Jl20, Jl22, Jl24, Jl28, Jl30, Jl31, Jl32, Jl35, Jl36, Jl37, Jl38, Jl39, Jl40, Jl48, Jl57, Jl59, Jl60, Jl61, Jl63, Jl64, Jl68, Jl69, Jl96, Jl97, Jl98, Jl99, Jl100, Jl122, Jl149, Jl150, Jl165, Jl255, Jl511, Jl512, Jl600, Jl610, Jl940, Jl968, Jl999, Jl1134, Jl1152, Jl2048, Jl4608, Jl9999, Jl99999, Jl100000, Jl147456, Jl12345, Jl1103515245, Jl100000000, Jlm1, Jlm2, J_add, J_sub, J_mul, J_lt, J_le, J_eq, J_ite, J_cl, ri_j, wi_j, b2i_z, b2i_o, b2i_zo, Int.cast_ofNat_Int, Int.natCast_zero, Int.natCast_one, if_true, if_false, ite_self, Int.le_refl, J_bit, J_or, J_neg, J_oN, Int.reduceEq, Int.reduceLT, Int.reduceLE, Int.reduceNeg, Int.reduceAdd, Int.reduceSub, Int.reduceMul, Int.reduceToNat, J_shl, J_shr, V_ite, true_or, or_true, nz_j, J_div, J_rem, Option.bind_some, Option.toList_some, Option.toList_none, List.cons_append, List.nil_append, Jl21, Jl23, Jl25, Jl74, Jl83, Jl288, Jl324, Jl1800, Jlm8]
      | true =>
        rw [if_pos rfl]
        simp (disch := omega) only [b139_22, b139_32, b139_37, b139_54, gO_k hO, gR_k f0, gR_k f1, gR_k f2, gR_k f3, gR_k f4, gR_k f5, gR_k f6, gR_k f7, gR_k f8, gO_D hD, gR_D0 hD, gR_D4 hD, gR_D5 hD, gR_D6 hD, gR_D7 hD, gR_D8 hD, al_D1 hD, al_D2 hD, al_D3 hD, al_D4 hD, al_D5 hD, al_D6 hD, rd_D1 hD, rd_D2 hD, rd_D3 hD, rd_D4 hD, rd_D5 hD, rd_D6 hD, gO_P hP, gR_P4 hP, gR_P6 hP, gR_P7 hP, gR_P8 hP, gR_P9 hP, gR_P10 hP, al_P14 hP, al_P15 hP, al_P16 hP, al_P17 hP, al_P18 hP, al_P19 hP, rd_P14 hP, rd_P15 hP, rd_P16 hP, rd_P17 hP, rd_P18 hP, rd_P19 hP, p1, p4, b2i_t, Jl0, Jl1, Jl2, Jl3, Jl4, Jl5, Jl6, Jl7, Jl8, Jl9, Jl10, Jl11, Jl12, Jl13, Jl14, Jl15, Jl16, Jl17, Jl18, Jl19, Jl20, Jl22, Jl24, Jl28, Jl30, Jl31, Jl32, Jl35, Jl36, Jl37, Jl38, Jl39, Jl40, Jl48, Jl57, Jl59, Jl60, Jl61, Jl63, Jl64, Jl68, Jl69, Jl96, Jl97, Jl98, Jl99, Jl100, Jl122, Jl149, Jl150, Jl165, Jl255, Jl511, Jl512, Jl600, Jl610, Jl940, Jl968, Jl999, Jl1134, Jl1152, Jl2048, Jl4608, Jl9999, Jl99999, Jl100000, Jl147456, Jl12345, Jl1103515245, Jl100000000, Jlm1, Jlm2, J_add, J_sub, J_mul, J_lt, J_le, J_eq, J_ite, J_cl, ri_j, wi_j, b2i_z, b2i_o, b2i_zo, Int.cast_ofNat_Int, Int.natCast_zero, Int.natCast_one, if_true, if_false, ite_self, Int.le_refl, J_bit, J_or, J_neg, J_oN, Int.reduceEq, Int.reduceLT, Int.reduceLE, Int.reduceNeg, Int.reduceAdd, Int.reduceSub, Int.reduceMul, Int.reduceToNat, J_shl, J_shr, V_ite, true_or, or_true, nz_j, J_div, J_rem, Option.bind_some, Option.toList_some, Option.toList_none, List.cons_append, List.nil_append, Jl21, Jl23, Jl25, Jl74, Jl83, Jl288, Jl324, Jl1800, Jlm8]
    · rw [if_neg (fun q => c3 (o3b_c q.1))]
      obtain ⟨I2, o1, o3⟩ := iop_n (E := E) (d := d) (by omega) hC hK.2.1 ⟨hx.1, hx.2.1, hx.2.2.1⟩ c3
      refine ⟨μ, I2, ?_, o3⟩
      simp (disch := omega) only [b139_0, b139_7, b139_10, b139_17, b139_20, e139, gO_k hO, gR_k f0, gR_k f1, gR_k f2, gR_k f3, gR_k f4, gR_k f5, gR_k f6, gR_k f7, gR_k f8, gO_D hD, gR_D0 hD, gR_D4 hD, gR_D5 hD, gR_D6 hD, gR_D7 hD, gR_D8 hD, al_D1 hD, al_D2 hD, al_D3 hD, al_D4 hD, al_D5 hD, al_D6 hD, rd_D1 hD, rd_D2 hD, rd_D3 hD, rd_D4 hD, rd_D5 hD, rd_D6 hD, hil, o1, b2i_t, Jl0, Jl1, Jl2, Jl3, Jl4, Jl5, Jl6, Jl7, Jl8, Jl9, Jl10, Jl11, Jl12, Jl13, Jl14, Jl15, Jl16, Jl17, Jl18, Jl19, Jl20, Jl22, Jl24, Jl28, Jl30, Jl31, Jl32, Jl35, Jl36, Jl37, Jl38, Jl39, Jl40, Jl48, Jl57, Jl59, Jl60, Jl61, Jl63, Jl64, Jl68, Jl69, Jl96, Jl97, Jl98, Jl99, Jl100, Jl122, Jl149, Jl150, Jl165, Jl255, Jl511, Jl512, Jl600, Jl610, Jl940, Jl968, Jl999, Jl1134, Jl1152, Jl2048, Jl4608, Jl9999, Jl99999, Jl100000, Jl147456, Jl12345, Jl1103515245, Jl100000000, Jlm1, Jlm2, J_add, J_sub, J_mul, J_lt, J_le, J_eq, J_ite, J_cl, ri_j, wi_j, b2i_z, b2i_o, b2i_zo, Int.cast_ofNat_Int, Int.natCast_zero, Int.natCast_one, if_true, if_false, ite_self, Int.le_refl, J_bit, J_or, J_neg, J_oN, Int.reduceEq, Int.reduceLT, Int.reduceLE, Int.reduceNeg, Int.reduceAdd, Int.reduceSub, Int.reduceMul, Int.reduceToNat, J_shl, J_shr, V_ite, true_or, or_true, nz_j, J_div, J_rem, Option.bind_some, Option.toList_some, Option.toList_none, List.cons_append, List.nil_append, Jl21, Jl23, Jl25, Jl74, Jl83, Jl288, Jl324, Jl1800, Jlm8]
  · rw [decide_eq_false ck] at hil
    rw [if_neg (fun q => ck ⟨(o3b_c q.1).1, q.2⟩)]
    refine ⟨μ, I, ?_, FQ.r⟩
    simp (disch := omega) only [b139_0, b139_7, b139_20, e139, gO_k hO, gR_k f0, gR_k f1, gR_k f2, gR_k f3, gR_k f4, gR_k f5, gR_k f6, gR_k f7, gR_k f8, gO_D hD, gR_D0 hD, gR_D4 hD, gR_D5 hD, gR_D6 hD, gR_D7 hD, gR_D8 hD, al_D1 hD, al_D2 hD, al_D3 hD, al_D4 hD, al_D5 hD, al_D6 hD, rd_D1 hD, rd_D2 hD, rd_D3 hD, rd_D4 hD, rd_D5 hD, rd_D6 hD, hil, b2i_f, Jl0, Jl1, Jl2, Jl3, Jl4, Jl5, Jl6, Jl7, Jl8, Jl9, Jl10, Jl11, Jl12, Jl13, Jl14, Jl15, Jl16, Jl17, Jl18, Jl19, Jl20, Jl22, Jl24, Jl28, Jl30, Jl31, Jl32, Jl35, Jl36, Jl37, Jl38, Jl39, Jl40, Jl48, Jl57, Jl59, Jl60, Jl61, Jl63, Jl64, Jl68, Jl69, Jl96, Jl97, Jl98, Jl99, Jl100, Jl122, Jl149, Jl150, Jl165, Jl255, Jl511, Jl512, Jl600, Jl610, Jl940, Jl968, Jl999, Jl1134, Jl1152, Jl2048, Jl4608, Jl9999, Jl99999, Jl100000, Jl147456, Jl12345, Jl1103515245, Jl100000000, Jlm1, Jlm2, J_add, J_sub, J_mul, J_lt, J_le, J_eq, J_ite, J_cl, ri_j, wi_j, b2i_z, b2i_o, b2i_zo, Int.cast_ofNat_Int, Int.natCast_zero, Int.natCast_one, if_true, if_false, ite_self, Int.le_refl, J_bit, J_or, J_neg, J_oN, Int.reduceEq, Int.reduceLT, Int.reduceLE, Int.reduceNeg, Int.reduceAdd, Int.reduceSub, Int.reduceMul, Int.reduceToNat, J_shl, J_shr, V_ite, true_or, or_true, nz_j, J_div, J_rem, Option.bind_some, Option.toList_some, Option.toList_none, List.cons_append, List.nil_append, Jl21, Jl23, Jl25, Jl74, Jl83, Jl288, Jl324, Jl1800, Jlm8]
theorem c_twice (hd : 8 ≤ d) (hK : CK μ I lo) (hx : i32 x ∧ i32 y ∧ i32 z ∧ i32 k) (eS : S = rws I (lo + 8 + 20 * x.toNat)) (eL : L = rws I (lo + 21 + 20 * y.toNat)) (eR : R = rws I (lo + 23 + 20 * z.toNat)) (eT : T = wlS S R (rws I (lo + 74)) 40) : CQ lo μ I (if o3b I lo x y z = true ∧ (0 ≤ k ∧ k < S 0 3) then (if bb = true then (twQ (fun a b => duA S L T k a b) 36).1 else (twQ (fun a b => duA S L T k a b) 36).2) else -1) (cl E lo d 154 [.ref lo, .int (J (x)), .int (J (y)), .int (J (z)), .int (J (k)), .int (J ((b2i bb)))] (mj μ I)) := by
  obtain ⟨d, rfl⟩ : ∃ e, d = e + 1 := ⟨d - 1, by omega⟩
  have hx' := hx
  unfold i32 at hx'
  have hC := hK.1
  obtain ⟨hO, f0, f1, f2, f3, f4, f5, f6, f7, f8, hD⟩ := CO.o hC
  have hil := isl_sp (E := E) (lo := lo) (d := d) (I := I) (x := x) (k := k) (by omega) hC (hK.2.1.1 0 (by omega) (by omega)) (hK.2.1.2.1 x) ⟨hx.1, hx.2.2.2⟩
  rw [← eS] at hil
  by_cases ck : (0 ≤ x ∧ x < I (lo + 1 + 2) 0) ∧ 0 ≤ k ∧ k < S 0 3
  · rw [decide_eq_true ck] at hil
    have hc0 := hK.2.1.1 0 (by omega) (by omega)
    have hc1 := hK.2.1.1 1 (by omega) (by omega)
    by_cases c3 : o3c I lo x y z
    · rw [if_pos ⟨o3b_y c3, ck.2⟩]
      obtain ⟨μ2, I2, o1, o2, o3, hV5, hLV, hRV, hTV, hTZ⟩ := iop (E := E) (d := d) (by omega) hK ⟨hx.1, hx.2.1, hx.2.2.1⟩ eS eL eR eT c3
      have hC2 := o3.C hC
      have hy := c3.2.1
      obtain ⟨I3, p1, p2, p3, p4⟩ := fal_sp (E := E) (lo := lo) (d := d) (ww := true) (by omega) hC2 o2 (by omega) ck.2
      rw [alQ_t] at p3 p4
      rw [b2i_t] at p1
      refine ⟨μ2, I3, ?_, o3.t (FQ.i (fun a h => p2 a (by omega)) (p2 _ (by omega)) (p2 _ (by omega)))⟩
      have s1 : cl E lo (d + 1) 154 [.ref lo, .int (J x), .int (J y), .int (J z), .int (J k), .int (J (b2i bb))] (mj μ I) = ex PG E lo d 154 22 [some (.ref lo), some (.int (J (x))), some (.int (J (y))), some (.int (J (z))), some (.int (J (k))), some (.int (J ((b2i bb))))] [] (mj μ2 I2) := by
        simp (disch := omega) only [b154_0, b154_7, b154_10, b154_17, e154, gO_k hO, gR_k f0, gR_k f1, gR_k f2, gR_k f3, gR_k f4, gR_k f5, gR_k f6, gR_k f7, gR_k f8, gO_D hD, gR_D0 hD, gR_D4 hD, gR_D5 hD, gR_D6 hD, gR_D7 hD, gR_D8 hD, al_D1 hD, al_D2 hD, al_D3 hD, al_D4 hD, al_D5 hD, al_D6 hD, rd_D1 hD, rd_D2 hD, rd_D3 hD, rd_D4 hD, rd_D5 hD, rd_D6 hD, hil, o1, b2i_t, Jl0, Jl1, Jl2, Jl3, Jl4, Jl5, Jl6, Jl7, Jl8, Jl9, Jl10, Jl11, Jl12, Jl13, Jl14, Jl15, Jl16, Jl17, Jl18, Jl19, Jl20, Jl22, Jl24, Jl28, Jl30, Jl31, Jl32, Jl35, Jl36, Jl37, Jl38, Jl39, Jl40, Jl48, Jl57, Jl59, Jl60, Jl61, Jl63, Jl64, Jl68, Jl69, Jl96, Jl97, Jl98, Jl99, Jl100, Jl122, Jl149, Jl150, Jl165, Jl255, Jl511, Jl512, Jl600, Jl610, Jl940, Jl968, Jl999, Jl1134, Jl1152, Jl2048, Jl4608, Jl9999, Jl99999, Jl100000, Jl147456, Jl12345, Jl1103515245, Jl100000000, Jlm1, Jlm2, J_add, J_sub, J_mul, J_lt, J_le, J_eq, J_ite, J_cl, ri_j, wi_j, b2i_z, b2i_o, b2i_zo, Int.cast_ofNat_Int, Int.natCast_zero, Int.natCast_one, if_true, if_false, ite_self, Int.le_refl, J_bit, J_or, J_neg, J_oN, Int.reduceEq, Int.reduceLT, Int.reduceLE, Int.reduceNeg, Int.reduceAdd, Int.reduceSub, Int.reduceMul, Int.reduceToNat, J_shl, J_shr, V_ite, true_or, or_true, nz_j, J_div, J_rem, Option.bind_some, Option.toList_some, Option.toList_none, List.cons_append, List.nil_append, Jl21, Jl23, Jl25, Jl74, Jl83, Jl288, Jl324, Jl1800, Jlm8]
      rw [s1]
      obtain ⟨hO, f0, f1, f2, f3, f4, f5, f6, f7, f8, hD⟩ := CO.o hC2
      have hP := hC2.P102
      cases bb with
      | false =>
        rw [if_neg (by decide)]
        simp (disch := omega) only [b154_22, b154_32, b154_47, b154_54, gO_k hO, gR_k f0, gR_k f1, gR_k f2, gR_k f3, gR_k f4, gR_k f5, gR_k f6, gR_k f7, gR_k f8, gO_D hD, gR_D0 hD, gR_D4 hD, gR_D5 hD, gR_D6 hD, gR_D7 hD, gR_D8 hD, al_D1 hD, al_D2 hD, al_D3 hD, al_D4 hD, al_D5 hD, al_D6 hD, rd_D1 hD, rd_D2 hD, rd_D3 hD, rd_D4 hD, rd_D5 hD, rd_D6 hD, gO_P hP, gR_P4 hP, gR_P6 hP, gR_P7 hP, gR_P8 hP, gR_P9 hP, gR_P10 hP, al_P14 hP, al_P15 hP, al_P16 hP, al_P17 hP, al_P18 hP, al_P19 hP, rd_P14 hP, rd_P15 hP, rd_P16 hP, rd_P17 hP, rd_P18 hP, rd_P19 hP, p1, p3, b2i_f, Jl0, Jl1, Jl2, Jl3, Jl4, Jl5, Jl6, Jl7, Jl8, Jl9, Jl10, Jl11, Jl12, Jl13, Jl14, Jl15, Jl16, Jl17, Jl18, Jl19, Jl20, Jl22, Jl24, Jl28, Jl30, Jl31, Jl32, Jl35, Jl36, Jl37, Jl38, Jl39, Jl40, Jl48, Jl57, Jl59, Jl60, Jl61, Jl63, Jl64, Jl68, Jl69, Jl96, Jl97, Jl98, Jl99, Jl100, Jl122, Jl149, Jl150, Jl165, Jl255, Jl511, Jl512, Jl600, Jl610, Jl940, Jl968, Jl999, Jl1134, Jl1152, Jl2048, Jl4608, Jl9999, Jl99999, Jl100000, Jl147456, Jl12345, Jl1103515245, Jl100000000, Jlm1, Jlm2, J_add, J_sub, J_mul, J_lt, J_le, J_eq, J_ite, J_cl, ri_j, wi_j, b2i_z, b2i_o, b2i_zo, Int.cast_ofNat_Int, Int.natCast_zero, Int.natCast_one, if_true, if_false, ite_self, Int.le_refl, J_bit, J_or, J_neg, J_oN, Int.reduceEq, Int.reduceLT, Int.reduceLE, Int.reduceNeg, Int.reduceAdd, Int.reduceSub, Int.reduceMul, Int.reduceToNat, J_shl, J_shr, V_ite, true_or, or_true, nz_j, J_div, J_rem, Option.bind_some, Option.toList_some, Option.toList_none, List.cons_append, List.nil_append, Jl21, Jl23, Jl25, Jl74, Jl83, Jl288, Jl324, Jl1800, Jlm8]
      | true =>
        rw [if_pos rfl]
        simp (disch := omega) only [b154_22, b154_32, b154_37, b154_54, gO_k hO, gR_k f0, gR_k f1, gR_k f2, gR_k f3, gR_k f4, gR_k f5, gR_k f6, gR_k f7, gR_k f8, gO_D hD, gR_D0 hD, gR_D4 hD, gR_D5 hD, gR_D6 hD, gR_D7 hD, gR_D8 hD, al_D1 hD, al_D2 hD, al_D3 hD, al_D4 hD, al_D5 hD, al_D6 hD, rd_D1 hD, rd_D2 hD, rd_D3 hD, rd_D4 hD, rd_D5 hD, rd_D6 hD, gO_P hP, gR_P4 hP, gR_P6 hP, gR_P7 hP, gR_P8 hP, gR_P9 hP, gR_P10 hP, al_P14 hP, al_P15 hP, al_P16 hP, al_P17 hP, al_P18 hP, al_P19 hP, rd_P14 hP, rd_P15 hP, rd_P16 hP, rd_P17 hP, rd_P18 hP, rd_P19 hP, p1, p4, b2i_t, Jl0, Jl1, Jl2, Jl3, Jl4, Jl5, Jl6, Jl7, Jl8, Jl9, Jl10, Jl11, Jl12, Jl13, Jl14, Jl15, Jl16, Jl17, Jl18, Jl19, Jl20, Jl22, Jl24, Jl28, Jl30, Jl31, Jl32, Jl35, Jl36, Jl37, Jl38, Jl39, Jl40, Jl48, Jl57, Jl59, Jl60, Jl61, Jl63, Jl64, Jl68, Jl69, Jl96, Jl97, Jl98, Jl99, Jl100, Jl122, Jl149, Jl150, Jl165, Jl255, Jl511, Jl512, Jl600, Jl610, Jl940, Jl968, Jl999, Jl1134, Jl1152, Jl2048, Jl4608, Jl9999, Jl99999, Jl100000, Jl147456, Jl12345, Jl1103515245, Jl100000000, Jlm1, Jlm2, J_add, J_sub, J_mul, J_lt, J_le, J_eq, J_ite, J_cl, ri_j, wi_j, b2i_z, b2i_o, b2i_zo, Int.cast_ofNat_Int, Int.natCast_zero, Int.natCast_one, if_true, if_false, ite_self, Int.le_refl, J_bit, J_or, J_neg, J_oN, Int.reduceEq, Int.reduceLT, Int.reduceLE, Int.reduceNeg, Int.reduceAdd, Int.reduceSub, Int.reduceMul, Int.reduceToNat, J_shl, J_shr, V_ite, true_or, or_true, nz_j, J_div, J_rem, Option.bind_some, Option.toList_some, Option.toList_none, List.cons_append, List.nil_append, Jl21, Jl23, Jl25, Jl74, Jl83, Jl288, Jl324, Jl1800, Jlm8]
    · rw [if_neg (fun q => c3 (o3b_c q.1))]
      obtain ⟨I2, o1, o3⟩ := iop_n (E := E) (d := d) (by omega) hC hK.2.1 ⟨hx.1, hx.2.1, hx.2.2.1⟩ c3
      refine ⟨μ, I2, ?_, o3⟩
      simp (disch := omega) only [b154_0, b154_7, b154_10, b154_17, b154_20, e154, gO_k hO, gR_k f0, gR_k f1, gR_k f2, gR_k f3, gR_k f4, gR_k f5, gR_k f6, gR_k f7, gR_k f8, gO_D hD, gR_D0 hD, gR_D4 hD, gR_D5 hD, gR_D6 hD, gR_D7 hD, gR_D8 hD, al_D1 hD, al_D2 hD, al_D3 hD, al_D4 hD, al_D5 hD, al_D6 hD, rd_D1 hD, rd_D2 hD, rd_D3 hD, rd_D4 hD, rd_D5 hD, rd_D6 hD, hil, o1, b2i_t, Jl0, Jl1, Jl2, Jl3, Jl4, Jl5, Jl6, Jl7, Jl8, Jl9, Jl10, Jl11, Jl12, Jl13, Jl14, Jl15, Jl16, Jl17, Jl18, Jl19, Jl20, Jl22, Jl24, Jl28, Jl30, Jl31, Jl32, Jl35, Jl36, Jl37, Jl38, Jl39, Jl40, Jl48, Jl57, Jl59, Jl60, Jl61, Jl63, Jl64, Jl68, Jl69, Jl96, Jl97, Jl98, Jl99, Jl100, Jl122, Jl149, Jl150, Jl165, Jl255, Jl511, Jl512, Jl600, Jl610, Jl940, Jl968, Jl999, Jl1134, Jl1152, Jl2048, Jl4608, Jl9999, Jl99999, Jl100000, Jl147456, Jl12345, Jl1103515245, Jl100000000, Jlm1, Jlm2, J_add, J_sub, J_mul, J_lt, J_le, J_eq, J_ite, J_cl, ri_j, wi_j, b2i_z, b2i_o, b2i_zo, Int.cast_ofNat_Int, Int.natCast_zero, Int.natCast_one, if_true, if_false, ite_self, Int.le_refl, J_bit, J_or, J_neg, J_oN, Int.reduceEq, Int.reduceLT, Int.reduceLE, Int.reduceNeg, Int.reduceAdd, Int.reduceSub, Int.reduceMul, Int.reduceToNat, J_shl, J_shr, V_ite, true_or, or_true, nz_j, J_div, J_rem, Option.bind_some, Option.toList_some, Option.toList_none, List.cons_append, List.nil_append, Jl21, Jl23, Jl25, Jl74, Jl83, Jl288, Jl324, Jl1800, Jlm8]
  · rw [decide_eq_false ck] at hil
    rw [if_neg (fun q => ck ⟨(o3b_c q.1).1, q.2⟩)]
    refine ⟨μ, I, ?_, FQ.r⟩
    simp (disch := omega) only [b154_0, b154_7, b154_20, e154, gO_k hO, gR_k f0, gR_k f1, gR_k f2, gR_k f3, gR_k f4, gR_k f5, gR_k f6, gR_k f7, gR_k f8, gO_D hD, gR_D0 hD, gR_D4 hD, gR_D5 hD, gR_D6 hD, gR_D7 hD, gR_D8 hD, al_D1 hD, al_D2 hD, al_D3 hD, al_D4 hD, al_D5 hD, al_D6 hD, rd_D1 hD, rd_D2 hD, rd_D3 hD, rd_D4 hD, rd_D5 hD, rd_D6 hD, hil, b2i_f, Jl0, Jl1, Jl2, Jl3, Jl4, Jl5, Jl6, Jl7, Jl8, Jl9, Jl10, Jl11, Jl12, Jl13, Jl14, Jl15, Jl16, Jl17, Jl18, Jl19, Jl20, Jl22, Jl24, Jl28, Jl30, Jl31, Jl32, Jl35, Jl36, Jl37, Jl38, Jl39, Jl40, Jl48, Jl57, Jl59, Jl60, Jl61, Jl63, Jl64, Jl68, Jl69, Jl96, Jl97, Jl98, Jl99, Jl100, Jl122, Jl149, Jl150, Jl165, Jl255, Jl511, Jl512, Jl600, Jl610, Jl940, Jl968, Jl999, Jl1134, Jl1152, Jl2048, Jl4608, Jl9999, Jl99999, Jl100000, Jl147456, Jl12345, Jl1103515245, Jl100000000, Jlm1, Jlm2, J_add, J_sub, J_mul, J_lt, J_le, J_eq, J_ite, J_cl, ri_j, wi_j, b2i_z, b2i_o, b2i_zo, Int.cast_ofNat_Int, Int.natCast_zero, Int.natCast_one, if_true, if_false, ite_self, Int.le_refl, J_bit, J_or, J_neg, J_oN, Int.reduceEq, Int.reduceLT, Int.reduceLE, Int.reduceNeg, Int.reduceAdd, Int.reduceSub, Int.reduceMul, Int.reduceToNat, J_shl, J_shr, V_ite, true_or, or_true, nz_j, J_div, J_rem, Option.bind_some, Option.toList_some, Option.toList_none, List.cons_append, List.nil_append, Jl21, Jl23, Jl25, Jl74, Jl83, Jl288, Jl324, Jl1800, Jlm8]
end CLASS
