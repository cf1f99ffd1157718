/-! TRAILS of the class -/
/-- m rows from t on -/
def sB (I : Nat → Int → Int) (t m : Nat) (T : Nat → Int → Int) : Nat → Int → Int := fun a => if t ≤ a ∧ a < t + m then T (a - t) else I a
section SB
variable {I T : Nat → Int → Int} {t m c a : Nat} {x v : Int}
theorem sB_c (h : c < m) : sB I t m T (t + c) = T c := by
  unfold sB
  rw [if_pos (by omega), Nat.add_sub_cancel_left]
theorem sB_0 (h : 0 < m) : sB I t m T t = T 0 := sB_c (c := 0) h
theorem sB_n (h : a < t ∨ t + m ≤ a) : sB I t m T a = I a := if_neg (by omega)
theorem u3_sB (h : c < m) : u3 (sB I t m T) (t + c) x v = sB I t m (u3 T c x v) := by
  funext b i
  unfold u3 sB
  by_cases h1 : t ≤ b ∧ b < t + m
  · rw [if_pos h1, if_pos h1]
    dsimp only
    by_cases h2 : b = t + c ∧ i = x
    · rw [if_pos h2, if_pos (by omega)]
    · rw [if_neg h2, if_neg (by omega)]
  · rw [if_neg h1, if_neg h1, if_neg (by omega)]
theorem u3_sB0 (h : 0 < m) : u3 (sB I t m T) t x v = sB I t m (u3 T 0 x v) := u3_sB (c := 0) h
theorem sB_id : sB I t m (fun f => I (t + f)) = I := by
  funext b
  unfold sB
  split
  · dsimp only
    rw [show t + (b - t) = b by omega]
  · rfl
theorem sA_sB {f : Int → Int} (h : c < m) : sA (sB I t m T) (t + c) f = sB I t m (sA T c f) := by
  funext b
  unfold sA sB
  by_cases h1 : t ≤ b ∧ b < t + m
  · rw [if_pos h1, if_pos h1]
    dsimp only
    by_cases h2 : b = t + c
    · rw [if_pos h2, if_pos (by omega)]
    · rw [if_neg h2, if_neg (by omega)]
  · rw [if_neg h1, if_neg h1, if_neg (by omega)]
end SB
/-- going on from the end to the beginning -/
theorem downI {P : Int → Prop} {a n : Int} (han : a ≤ n) (hn : P n) (h : ∀ i, a ≤ i → i < n → P (i + 1) → P i) : P a := by
  obtain ⟨m, rfl⟩ : ∃ m : Nat, n = a + m := ⟨(n - a).toNat, by omega⟩
  clear han
  induction m with
  | zero => rw [show a + ((0 : Nat) : Int) = a by omega] at hn; exact hn
  | succ m ih =>
    refine ih ?_ (fun i h1 h2 => h i h1 (by omega))
    refine h (a + m) (by omega) (by omega) ?_
    rw [show a + (m : Int) + 1 = a + ((m + 1 : Nat) : Int) by omega]
    exact hn
/-- what a round's numbers can be -/
def RV (R : Nat → Int → Int) : Prop := (0 ≤ R 0 0 ∧ R 0 0 ≤ 7 ∧ 0 ≤ R 0 1 ∧ R 0 1 ≤ 35 ∧ 0 ≤ R 0 2 ∧ R 0 2 ≤ 40) ∧ ∀ i, 0 ≤ i → i < R 0 2 → (0 ≤ R 1 i ∧ R 1 i ≤ 2) ∧ (R 1 i = 0 → 0 ≤ R 2 i ∧ R 2 i ≤ 7) ∧ (-1 ≤ R 2 i ∧ R 2 i ≤ 35) ∧ (R 1 i = 2 → 1 ≤ R 2 i)
def clT (T : Nat → Int → Int) : Nat → Int → Int := sA (sA (sA (u3 (u3 T 0 2 0) 0 7 0) 1 (flr (T 1) 0 36 (-1))) 2 (flr (T 2) 0 36 (-1))) 3 (flr (T 3) 0 36 0)
def soT (T : Nat → Int → Int) : Nat → Int → Int :=
  let T1 := if T 3 (T 0 1) = 0 ∧ T 0 7 < 36 then u3 (u3 T 4 (T 0 7) (T 0 1)) 0 7 (T 0 7 + 1) else T
  u3 (u3 T1 2 (T 0 1) (T 0 0)) 3 (T 0 1) (T 3 (T 0 1) + 1)
def goT (nb un : Int) (T : Nat → Int → Int) : Nat → Int → Int := u3 (u3 (u3 T 0 1 (T 0 1 + un)) 0 0 nb) 1 (T 0 1 + un) nb
def waT (un : Int) (T : Nat → Int → Int) : Nat → Int → Int := u3 T 0 1 (T 0 1 + un)
def stepT (S : Nat → Int → Int) (kd nb : Int) (T : Nat → Int → Int) : Nat → Int → Int := if kd = 1 then soT T else if kd = 0 then goT nb (S 1 (T 0 0 * 8 + nb)) T else waT nb T
def canT (S : Nat → Int → Int) (kd nb h u : Int) : Bool := if kd = 1 then true else if kd = 0 then decide (0 ≤ nb ∧ nb < S 0 0 ∧ 0 < S 1 (h * 8 + nb) ∧ u + S 1 (h * 8 + nb) ≤ 35) else decide (0 < nb ∧ u + nb ≤ 35)
/-- rows of a trail, as they are on the way -/
def TI (T : Nat → Int → Int) : Prop := (0 ≤ T 0 0 ∧ T 0 0 < 8 ∧ 0 ≤ T 0 1 ∧ T 0 1 ≤ 35 ∧ 0 ≤ T 0 7 ∧ T 0 7 ≤ 36) ∧ ∀ u, 0 ≤ u → u < 36 → 0 ≤ T 3 u ∧ T 3 u < 100000
section TRAIL
variable {E : (Nat → Value) × (Nat → Nat)} {lo d s t r : Nat} {μ : rM} {I S R T : Nat → Int → Int} {k u x y h w kd nb : Int}
theorem snd_sp (hd : 1 ≤ d) (hT : ShT μ t) (hl : lo ≤ t) (hI : TI T) : cl E lo d 103 [.ref t] (mj μ (sB I t 5 T)) = some (none, mj μ (sB I t 5 (soT T))) := by
  obtain ⟨d, rfl⟩ : ∃ e, d = e + 1 := ⟨d - 1, by omega⟩
  have h1 := hI.1
  have h2 := hI.2 (T 0 1) (by omega) (by omega)
  unfold soT
  by_cases c1 : T 3 (T 0 1) = 0 ∧ T 0 7 < 36
  · rw [if_pos c1]
    simp (disch := omega) only [e103, b103_0, b103_12, b103_21, b103_34, b103_44, b103_57, b103_70, gO_T hT, gR_T3 hT, gR_T4 hT, gR_T5 hT, gR_T6 hT, al_T1 hT, al_T2 hT, al_T3 hT, al_T4 hT, rd_T1 hT, rd_T2 hT, rd_T3 hT, rd_T4 hT, gP_T hT hl, wr_T1 hT hl, wr_T2 hT hl, wr_T3 hT hl, wr_T4 hT hl, sB_0, sB_c, u3_sB0, u3_sB, u3_s, u3_n, Nat.reduceLT, c1.1, Jl0, Jl1, Jl2, Jl3, Jl4, Jl5, Jl6, Jl7, Jl8, Jl9, Jl10, Jl11, Jl12, Jl13, Jl14, Jl15, Jl16, Jl17, Jl18, Jl19, Jl20, Jl22, Jl24, Jl28, Jl30, Jl31, Jl32, Jl35, Jl36, Jl37, Jl38, Jl39, Jl40, Jl48, Jl57, Jl59, Jl60, Jl61, Jl63, Jl64, Jl68, Jl69, Jl96, Jl97, Jl98, Jl99, Jl100, Jl122, Jl149, Jl150, Jl165, Jl255, Jl511, Jl512, Jl600, Jl610, Jl940, Jl968, Jl999, Jl1134, Jl1152, Jl2048, Jl4608, Jl9999, Jl99999, Jl100000, Jl147456, Jl12345, Jl1103515245, Jl100000000, Jlm1, Jlm2, J_add, J_sub, J_mul, J_lt, J_le, J_eq, J_ite, J_cl, ri_j, wi_j, b2i_z, b2i_o, b2i_zo, Int.cast_ofNat_Int, Int.natCast_zero, Int.natCast_one, if_true, if_false, ite_self, Int.le_refl, J_bit, J_or, J_neg, J_oN, Int.reduceEq, Int.reduceLT, Int.reduceLE, Int.reduceNeg, Int.reduceAdd, Int.reduceSub, Int.reduceMul, Int.reduceToNat, J_shl, J_shr, V_ite, true_or, or_true, nz_j, J_div, J_rem, Option.bind_some, Option.toList_some, Option.toList_none, List.cons_append, List.nil_append]
    rw [if_neg (by omega)]
  · rw [if_neg c1]
    simp (disch := omega) only [b103_0, b103_12, b103_44, b103_57, b103_70, e103, gO_T hT, gR_T3 hT, gR_T4 hT, gR_T5 hT, gR_T6 hT, al_T1 hT, al_T2 hT, al_T3 hT, al_T4 hT, rd_T1 hT, rd_T2 hT, rd_T3 hT, rd_T4 hT, gP_T hT hl, wr_T1 hT hl, wr_T2 hT hl, wr_T3 hT hl, wr_T4 hT hl, sB_0, sB_c, u3_sB0, u3_sB, u3_s, u3_n, Nat.reduceLT, Jl0, Jl1, Jl2, Jl3, Jl4, Jl5, Jl6, Jl7, Jl8, Jl9, Jl10, Jl11, Jl12, Jl13, Jl14, Jl15, Jl16, Jl17, Jl18, Jl19, Jl20, Jl22, Jl24, Jl28, Jl30, Jl31, Jl32, Jl35, Jl36, Jl37, Jl38, Jl39, Jl40, Jl48, Jl57, Jl59, Jl60, Jl61, Jl63, Jl64, Jl68, Jl69, Jl96, Jl97, Jl98, Jl99, Jl100, Jl122, Jl149, Jl150, Jl165, Jl255, Jl511, Jl512, Jl600, Jl610, Jl940, Jl968, Jl999, Jl1134, Jl1152, Jl2048, Jl4608, Jl9999, Jl99999, Jl100000, Jl147456, Jl12345, Jl1103515245, Jl100000000, Jlm1, Jlm2, J_add, J_sub, J_mul, J_lt, J_le, J_eq, J_ite, J_cl, ri_j, wi_j, b2i_z, b2i_o, b2i_zo, Int.cast_ofNat_Int, Int.natCast_zero, Int.natCast_one, if_true, if_false, ite_self, Int.le_refl, J_bit, J_or, J_neg, J_oN, Int.reduceEq, Int.reduceLT, Int.reduceLE, Int.reduceNeg, Int.reduceAdd, Int.reduceSub, Int.reduceMul, Int.reduceToNat, J_shl, J_shr, V_ite, true_or, or_true, nz_j, J_div, J_rem, Option.bind_some, Option.toList_some, Option.toList_none, List.cons_append, List.nil_append]
    grind
theorem stp_sp (hd : 2 ≤ d) (hT : ShT μ t) (hl : lo ≤ t) (hI : TI T) (hS : AtS μ I s S) (hV : SV S) (ha : s + 13 ≤ t ∨ t + 5 ≤ s) (hk : 0 ≤ kd ∧ kd ≤ 2) (hn : -1 ≤ nb ∧ nb ≤ 35) : cl E lo d 102 [.ref t, .ref s, .int (J (kd)), .int (J (nb))] (mj μ (sB I t 5 T)) = some (some (.int (J (b2i (canT S kd nb (T 0 0) (T 0 1))))), mj μ (sB I t 5 (if canT S kd nb (T 0 0) (T 0 1) = true then stepT S kd nb T else T))) := by
  obtain ⟨d, rfl⟩ : ∃ e, d = e + 1 := ⟨d - 1, by omega⟩
  have h1 := hI.1
  have v := hV.1
  have hS' : AtS μ (sB I t 5 T) s S := hS.fr (fun a q1 q2 => sB_n (by omega))
  unfold canT stepT
  by_cases c1 : kd = 1
  · simp (disch := omega) only [e102, b102_0, b102_5, b102_9, b102_11, b102_15, b102_20, b102_23, b102_25, b102_29, b102_38, b102_41, b102_42, b102_49, b102_61, b102_63, b102_74, b102_78, b102_83, b102_93, gO_T hT, gR_T3 hT, gR_T4 hT, gR_T5 hT, gR_T6 hT, al_T1 hT, al_T2 hT, al_T3 hT, al_T4 hT, rd_T1 hT, rd_T2 hT, rd_T3 hT, rd_T4 hT, gP_T hT hl, wr_T1 hT hl, wr_T2 hT hl, wr_T3 hT hl, wr_T4 hT hl, sB_0, sB_c, u3_sB0, u3_sB, u3_s, u3_n, Nat.reduceLT, snd_sp, c1, b2i_t, Jl0, Jl1, Jl2, Jl3, Jl4, Jl5, Jl6, Jl7, Jl8, Jl9, Jl10, Jl11, Jl12, Jl13, Jl14, Jl15, Jl16, Jl17, Jl18, Jl19, Jl20, Jl22, Jl24, Jl28, Jl30, Jl31, Jl32, Jl35, Jl36, Jl37, Jl38, Jl39, Jl40, Jl48, Jl57, Jl59, Jl60, Jl61, Jl63, Jl64, Jl68, Jl69, Jl96, Jl97, Jl98, Jl99, Jl100, Jl122, Jl149, Jl150, Jl165, Jl255, Jl511, Jl512, Jl600, Jl610, Jl940, Jl968, Jl999, Jl1134, Jl1152, Jl2048, Jl4608, Jl9999, Jl99999, Jl100000, Jl147456, Jl12345, Jl1103515245, Jl100000000, Jlm1, Jlm2, J_add, J_sub, J_mul, J_lt, J_le, J_eq, J_ite, J_cl, ri_j, wi_j, b2i_z, b2i_o, b2i_zo, Int.cast_ofNat_Int, Int.natCast_zero, Int.natCast_one, if_true, if_false, ite_self, Int.le_refl, J_bit, J_or, J_neg, J_oN, Int.reduceEq, Int.reduceLT, Int.reduceLE, Int.reduceNeg, Int.reduceAdd, Int.reduceSub, Int.reduceMul, Int.reduceToNat, J_shl, J_shr, V_ite, true_or, or_true, nz_j, J_div, J_rem, Option.bind_some, Option.toList_some, Option.toList_none, List.cons_append, List.nil_append]
  · by_cases c0 : kd = 0
    · by_cases c2 : 0 ≤ nb ∧ nb < S 0 0
      · have v2 := hV.2.1 (T 0 0 * 8 + nb) (by omega) (by omega)
        by_cases c3 : 0 < S 1 (T 0 0 * 8 + nb) ∧ T 0 1 + S 1 (T 0 0 * 8 + nb) ≤ 35
        · unfold goT
          simp (disch := omega) only [e102, b102_0, b102_5, b102_9, b102_11, b102_15, b102_20, b102_23, b102_25, b102_29, b102_38, b102_41, b102_42, b102_49, b102_61, b102_63, b102_74, b102_78, b102_83, b102_93, gO_T hT, gR_T3 hT, gR_T4 hT, gR_T5 hT, gR_T6 hT, al_T1 hT, al_T2 hT, al_T3 hT, al_T4 hT, rd_T1 hT, rd_T2 hT, rd_T3 hT, rd_T4 hT, gP_T hT hl, wr_T1 hT hl, wr_T2 hT hl, wr_T3 hT hl, wr_T4 hT hl, sB_0, sB_c, u3_sB0, u3_sB, u3_s, u3_n, Nat.reduceLT, gO_S hS'.1, gR_S2 hS'.1, gR_S4 hS'.1, gR_S5 hS'.1, gR_S6 hS'.1, gR_S7 hS'.1, gR_S8 hS'.1, gR_S9 hS'.1, gR_S10 hS'.1, gR_S11 hS'.1, gR_S12 hS'.1, gR_S14 hS'.1, gR_S15 hS'.1, al_S1 hS'.1, al_S2 hS'.1, al_S3 hS'.1, al_S4 hS'.1, al_S5 hS'.1, al_S6 hS'.1, al_S7 hS'.1, al_S8 hS'.1, al_S9 hS'.1, al_S10 hS'.1, al_S11 hS'.1, al_S12 hS'.1, rd_S1 hS'.1, rd_S2 hS'.1, rd_S3 hS'.1, rd_S4 hS'.1, rd_S5 hS'.1, rd_S6 hS'.1, rd_S7 hS'.1, rd_S8 hS'.1, rd_S9 hS'.1, rd_S10 hS'.1, rd_S11 hS'.1, rd_S12 hS'.1, vS_0 hS', vS_1 hS', vS_2 hS', vS_3 hS', vS_4 hS', vS_5 hS', vS_6 hS', vS_7 hS', vS_8 hS', vS_9 hS', vS_10 hS', vS_11 hS', vS_12 hS', hh_sp, du_sp, c0, c2, c3, b2i_t, decide_true, Bool.true_eq_false, and_self, true_and, Jl0, Jl1, Jl2, Jl3, Jl4, Jl5, Jl6, Jl7, Jl8, Jl9, Jl10, Jl11, Jl12, Jl13, Jl14, Jl15, Jl16, Jl17, Jl18, Jl19, Jl20, Jl22, Jl24, Jl28, Jl30, Jl31, Jl32, Jl35, Jl36, Jl37, Jl38, Jl39, Jl40, Jl48, Jl57, Jl59, Jl60, Jl61, Jl63, Jl64, Jl68, Jl69, Jl96, Jl97, Jl98, Jl99, Jl100, Jl122, Jl149, Jl150, Jl165, Jl255, Jl511, Jl512, Jl600, Jl610, Jl940, Jl968, Jl999, Jl1134, Jl1152, Jl2048, Jl4608, Jl9999, Jl99999, Jl100000, Jl147456, Jl12345, Jl1103515245, Jl100000000, Jlm1, Jlm2, J_add, J_sub, J_mul, J_lt, J_le, J_eq, J_ite, J_cl, ri_j, wi_j, b2i_z, b2i_o, b2i_zo, Int.cast_ofNat_Int, Int.natCast_zero, Int.natCast_one, if_true, if_false, ite_self, Int.le_refl, J_bit, J_or, J_neg, J_oN, Int.reduceEq, Int.reduceLT, Int.reduceLE, Int.reduceNeg, Int.reduceAdd, Int.reduceSub, Int.reduceMul, Int.reduceToNat, J_shl, J_shr, V_ite, true_or, or_true, nz_j, J_div, J_rem, Option.bind_some, Option.toList_some, Option.toList_none, List.cons_append, List.nil_append]
          rw [if_neg (by omega)]
        · have c4 : ¬ (0 ≤ nb ∧ nb < S 0 0 ∧ 0 < S 1 (T 0 0 * 8 + nb) ∧ T 0 1 + S 1 (T 0 0 * 8 + nb) ≤ 35) := fun q => c3 q.2.2
          simp (disch := omega) only [b102_0, b102_11, b102_15, b102_20, b102_25, b102_29, b102_38, b102_42, b102_49, b102_61, e102, gO_T hT, gR_T3 hT, gR_T4 hT, gR_T5 hT, gR_T6 hT, al_T1 hT, al_T2 hT, al_T3 hT, al_T4 hT, rd_T1 hT, rd_T2 hT, rd_T3 hT, rd_T4 hT, gP_T hT hl, wr_T1 hT hl, wr_T2 hT hl, wr_T3 hT hl, wr_T4 hT hl, sB_0, sB_c, u3_sB0, u3_sB, u3_s, u3_n, Nat.reduceLT, gO_S hS'.1, gR_S2 hS'.1, gR_S4 hS'.1, gR_S5 hS'.1, gR_S6 hS'.1, gR_S7 hS'.1, gR_S8 hS'.1, gR_S9 hS'.1, gR_S10 hS'.1, gR_S11 hS'.1, gR_S12 hS'.1, gR_S14 hS'.1, gR_S15 hS'.1, al_S1 hS'.1, al_S2 hS'.1, al_S3 hS'.1, al_S4 hS'.1, al_S5 hS'.1, al_S6 hS'.1, al_S7 hS'.1, al_S8 hS'.1, al_S9 hS'.1, al_S10 hS'.1, al_S11 hS'.1, al_S12 hS'.1, rd_S1 hS'.1, rd_S2 hS'.1, rd_S3 hS'.1, rd_S4 hS'.1, rd_S5 hS'.1, rd_S6 hS'.1, rd_S7 hS'.1, rd_S8 hS'.1, rd_S9 hS'.1, rd_S10 hS'.1, rd_S11 hS'.1, rd_S12 hS'.1, vS_0 hS', vS_1 hS', vS_2 hS', vS_3 hS', vS_4 hS', vS_5 hS', vS_6 hS', vS_7 hS', vS_8 hS', vS_9 hS', vS_10 hS', vS_11 hS', vS_12 hS', hh_sp, du_sp, c0, c2, c3, true_and, b2i_f, decide_true, decide_false, Bool.true_eq_false, Bool.false_eq_true, and_self, Jl0, Jl1, Jl2, Jl3, Jl4, Jl5, Jl6, Jl7, Jl8, Jl9, Jl10, Jl11, Jl12, Jl13, Jl14, Jl15, Jl16, Jl17, Jl18, Jl19, Jl20, Jl22, Jl24, Jl28, Jl30, Jl31, Jl32, Jl35, Jl36, Jl37, Jl38, Jl39, Jl40, Jl48, Jl57, Jl59, Jl60, Jl61, Jl63, Jl64, Jl68, Jl69, Jl96, Jl97, Jl98, Jl99, Jl100, Jl122, Jl149, Jl150, Jl165, Jl255, Jl511, Jl512, Jl600, Jl610, Jl940, Jl968, Jl999, Jl1134, Jl1152, Jl2048, Jl4608, Jl9999, Jl99999, Jl100000, Jl147456, Jl12345, Jl1103515245, Jl100000000, Jlm1, Jlm2, J_add, J_sub, J_mul, J_lt, J_le, J_eq, J_ite, J_cl, ri_j, wi_j, b2i_z, b2i_o, b2i_zo, Int.cast_ofNat_Int, Int.natCast_zero, Int.natCast_one, if_true, if_false, ite_self, Int.le_refl, J_bit, J_or, J_neg, J_oN, Int.reduceEq, Int.reduceLT, Int.reduceLE, Int.reduceNeg, Int.reduceAdd, Int.reduceSub, Int.reduceMul, Int.reduceToNat, J_shl, J_shr, V_ite, true_or, or_true, nz_j, J_div, J_rem, Option.bind_some, Option.toList_some, Option.toList_none, List.cons_append, List.nil_append]
          grind
      · have c4 : ¬ (0 ≤ nb ∧ nb < S 0 0 ∧ 0 < S 1 (T 0 0 * 8 + nb) ∧ T 0 1 + S 1 (T 0 0 * 8 + nb) ≤ 35) := fun q => c2 ⟨q.1, q.2.1⟩
        simp (disch := omega) only [e102, b102_0, b102_5, b102_9, b102_11, b102_15, b102_20, b102_23, b102_25, b102_29, b102_38, b102_41, b102_42, b102_49, b102_61, b102_63, b102_74, b102_78, b102_83, b102_93, gO_T hT, gR_T3 hT, gR_T4 hT, gR_T5 hT, gR_T6 hT, al_T1 hT, al_T2 hT, al_T3 hT, al_T4 hT, rd_T1 hT, rd_T2 hT, rd_T3 hT, rd_T4 hT, gP_T hT hl, wr_T1 hT hl, wr_T2 hT hl, wr_T3 hT hl, wr_T4 hT hl, sB_0, sB_c, u3_sB0, u3_sB, u3_s, u3_n, Nat.reduceLT, gO_S hS'.1, gR_S2 hS'.1, gR_S4 hS'.1, gR_S5 hS'.1, gR_S6 hS'.1, gR_S7 hS'.1, gR_S8 hS'.1, gR_S9 hS'.1, gR_S10 hS'.1, gR_S11 hS'.1, gR_S12 hS'.1, gR_S14 hS'.1, gR_S15 hS'.1, al_S1 hS'.1, al_S2 hS'.1, al_S3 hS'.1, al_S4 hS'.1, al_S5 hS'.1, al_S6 hS'.1, al_S7 hS'.1, al_S8 hS'.1, al_S9 hS'.1, al_S10 hS'.1, al_S11 hS'.1, al_S12 hS'.1, rd_S1 hS'.1, rd_S2 hS'.1, rd_S3 hS'.1, rd_S4 hS'.1, rd_S5 hS'.1, rd_S6 hS'.1, rd_S7 hS'.1, rd_S8 hS'.1, rd_S9 hS'.1, rd_S10 hS'.1, rd_S11 hS'.1, rd_S12 hS'.1, vS_0 hS', vS_1 hS', vS_2 hS', vS_3 hS', vS_4 hS', vS_5 hS', vS_6 hS', vS_7 hS', vS_8 hS', vS_9 hS', vS_10 hS', vS_11 hS', vS_12 hS', hh_sp, c0, c2, c4, b2i_f, decide_false, Bool.false_eq_true, Jl0, Jl1, Jl2, Jl3, Jl4, Jl5, Jl6, Jl7, Jl8, Jl9, Jl10, Jl11, Jl12, Jl13, Jl14, Jl15, Jl16, Jl17, Jl18, Jl19, Jl20, Jl22, Jl24, Jl28, Jl30, Jl31, Jl32, Jl35, Jl36, Jl37, Jl38, Jl39, Jl40, Jl48, Jl57, Jl59, Jl60, Jl61, Jl63, Jl64, Jl68, Jl69, Jl96, Jl97, Jl98, Jl99, Jl100, Jl122, Jl149, Jl150, Jl165, Jl255, Jl511, Jl512, Jl600, Jl610, Jl940, Jl968, Jl999, Jl1134, Jl1152, Jl2048, Jl4608, Jl9999, Jl99999, Jl100000, Jl147456, Jl12345, Jl1103515245, Jl100000000, Jlm1, Jlm2, J_add, J_sub, J_mul, J_lt, J_le, J_eq, J_ite, J_cl, ri_j, wi_j, b2i_z, b2i_o, b2i_zo, Int.cast_ofNat_Int, Int.natCast_zero, Int.natCast_one, if_true, if_false, ite_self, Int.le_refl, J_bit, J_or, J_neg, J_oN, Int.reduceEq, Int.reduceLT, Int.reduceLE, Int.reduceNeg, Int.reduceAdd, Int.reduceSub, Int.reduceMul, Int.reduceToNat, J_shl, J_shr, V_ite, true_or, or_true, nz_j, J_div, J_rem, Option.bind_some, Option.toList_some, Option.toList_none, List.cons_append, List.nil_append]
    · by_cases c3 : 0 < nb ∧ T 0 1 + nb ≤ 35
      · unfold waT
        simp (disch := omega) only [b102_0, b102_11, b102_25, b102_41, b102_42, b102_49, b102_61, b102_63, b102_74, b102_93, e102, gO_T hT, gR_T3 hT, gR_T4 hT, gR_T5 hT, gR_T6 hT, al_T1 hT, al_T2 hT, al_T3 hT, al_T4 hT, rd_T1 hT, rd_T2 hT, rd_T3 hT, rd_T4 hT, gP_T hT hl, wr_T1 hT hl, wr_T2 hT hl, wr_T3 hT hl, wr_T4 hT hl, sB_0, sB_c, u3_sB0, u3_sB, u3_s, u3_n, Nat.reduceLT, c0, c1, c3, b2i_t, decide_true, Bool.true_eq_false, and_self, Jl0, Jl1, Jl2, Jl3, Jl4, Jl5, Jl6, Jl7, Jl8, Jl9, Jl10, Jl11, Jl12, Jl13, Jl14, Jl15, Jl16, Jl17, Jl18, Jl19, Jl20, Jl22, Jl24, Jl28, Jl30, Jl31, Jl32, Jl35, Jl36, Jl37, Jl38, Jl39, Jl40, Jl48, Jl57, Jl59, Jl60, Jl61, Jl63, Jl64, Jl68, Jl69, Jl96, Jl97, Jl98, Jl99, Jl100, Jl122, Jl149, Jl150, Jl165, Jl255, Jl511, Jl512, Jl600, Jl610, Jl940, Jl968, Jl999, Jl1134, Jl1152, Jl2048, Jl4608, Jl9999, Jl99999, Jl100000, Jl147456, Jl12345, Jl1103515245, Jl100000000, Jlm1, Jlm2, J_add, J_sub, J_mul, J_lt, J_le, J_eq, J_ite, J_cl, ri_j, wi_j, b2i_z, b2i_o, b2i_zo, Int.cast_ofNat_Int, Int.natCast_zero, Int.natCast_one, if_true, if_false, ite_self, Int.le_refl, J_bit, J_or, J_neg, J_oN, Int.reduceEq, Int.reduceLT, Int.reduceLE, Int.reduceNeg, Int.reduceAdd, Int.reduceSub, Int.reduceMul, Int.reduceToNat, J_shl, J_shr, V_ite, true_or, or_true, nz_j, J_div, J_rem, Option.bind_some, Option.toList_some, Option.toList_none, List.cons_append, List.nil_append]
        rw [if_neg (by omega)]
      · simp (disch := omega) only [b102_0, b102_11, b102_25, b102_41, b102_42, b102_49, b102_61, e102, gO_T hT, gR_T3 hT, gR_T4 hT, gR_T5 hT, gR_T6 hT, al_T1 hT, al_T2 hT, al_T3 hT, al_T4 hT, rd_T1 hT, rd_T2 hT, rd_T3 hT, rd_T4 hT, gP_T hT hl, wr_T1 hT hl, wr_T2 hT hl, wr_T3 hT hl, wr_T4 hT hl, sB_0, sB_c, u3_sB0, u3_sB, u3_s, u3_n, Nat.reduceLT, c0, c1, c3, b2i_f, decide_false, Bool.false_eq_true, Jl0, Jl1, Jl2, Jl3, Jl4, Jl5, Jl6, Jl7, Jl8, Jl9, Jl10, Jl11, Jl12, Jl13, Jl14, Jl15, Jl16, Jl17, Jl18, Jl19, Jl20, Jl22, Jl24, Jl28, Jl30, Jl31, Jl32, Jl35, Jl36, Jl37, Jl38, Jl39, Jl40, Jl48, Jl57, Jl59, Jl60, Jl61, Jl63, Jl64, Jl68, Jl69, Jl96, Jl97, Jl98, Jl99, Jl100, Jl122, Jl149, Jl150, Jl165, Jl255, Jl511, Jl512, Jl600, Jl610, Jl940, Jl968, Jl999, Jl1134, Jl1152, Jl2048, Jl4608, Jl9999, Jl99999, Jl100000, Jl147456, Jl12345, Jl1103515245, Jl100000000, Jlm1, Jlm2, J_add, J_sub, J_mul, J_lt, J_le, J_eq, J_ite, J_cl, ri_j, wi_j, b2i_z, b2i_o, b2i_zo, Int.cast_ofNat_Int, Int.natCast_zero, Int.natCast_one, if_true, if_false, ite_self, Int.le_refl, J_bit, J_or, J_neg, J_oN, Int.reduceEq, Int.reduceLT, Int.reduceLE, Int.reduceNeg, Int.reduceAdd, Int.reduceSub, Int.reduceMul, Int.reduceToNat, J_shl, J_shr, V_ite, true_or, or_true, nz_j, J_div, J_rem, Option.bind_some, Option.toList_some, Option.toList_none, List.cons_append, List.nil_append]
        grind
theorem clr_sp (hd : 2 ≤ d) (hT : ShT μ t) (hl : lo ≤ t) : cl E lo d 100 [.ref t] (mj μ (sB I t 5 T)) = some (none, mj μ (sB I t 5 (clT T))) := by
  obtain ⟨d, rfl⟩ : ∃ e, d = e + 1 := ⟨d - 1, by omega⟩
  have f1 := fun T v => fill_sp (E := E) (d := d) (lo := lo) (I := sB I t 5 T) (v := v) (by omega) (hT.2 (3, 1, 0, 36) (by decide)).2 (by dsimp only; omega) (by decide)
  have f2 := fun T v => fill_sp (E := E) (d := d) (lo := lo) (I := sB I t 5 T) (v := v) (by omega) (hT.2 (4, 2, 0, 36) (by decide)).2 (by dsimp only; omega) (by decide)
  have f3 := fun T v => fill_sp (E := E) (d := d) (lo := lo) (I := sB I t 5 T) (v := v) (by omega) (hT.2 (5, 3, 0, 36) (by decide)).2 (by dsimp only; omega) (by decide)
  dsimp only at f1 f2 f3
  unfold clT
  simp (disch := omega) only [e100, b100_0, b100_5, b100_10, b100_18, b100_26, b100_34, gO_T hT, gR_T3 hT, gR_T4 hT, gR_T5 hT, gR_T6 hT, al_T1 hT, al_T2 hT, al_T3 hT, al_T4 hT, rd_T1 hT, rd_T2 hT, rd_T3 hT, rd_T4 hT, gP_T hT hl, wr_T1 hT hl, wr_T2 hT hl, wr_T3 hT hl, wr_T4 hT hl, sB_0, sB_c, u3_sB0, u3_sB, u3_s, u3_n, Nat.reduceLT, f1, f2, f3, sA_sB, sA_n, u3_c, Jl0, Jl1, Jl2, Jl3, Jl4, Jl5, Jl6, Jl7, Jl8, Jl9, Jl10, Jl11, Jl12, Jl13, Jl14, Jl15, Jl16, Jl17, Jl18, Jl19, Jl20, Jl22, Jl24, Jl28, Jl30, Jl31, Jl32, Jl35, Jl36, Jl37, Jl38, Jl39, Jl40, Jl48, Jl57, Jl59, Jl60, Jl61, Jl63, Jl64, Jl68, Jl69, Jl96, Jl97, Jl98, Jl99, Jl100, Jl122, Jl149, Jl150, Jl165, Jl255, Jl511, Jl512, Jl600, Jl610, Jl940, Jl968, Jl999, Jl1134, Jl1152, Jl2048, Jl4608, Jl9999, Jl99999, Jl100000, Jl147456, Jl12345, Jl1103515245, Jl100000000, Jlm1, Jlm2, J_add, J_sub, J_mul, J_lt, J_le, J_eq, J_ite, J_cl, ri_j, wi_j, b2i_z, b2i_o, b2i_zo, Int.cast_ofNat_Int, Int.natCast_zero, Int.natCast_one, if_true, if_false, ite_self, Int.le_refl, J_bit, J_or, J_neg, J_oN, Int.reduceEq, Int.reduceLT, Int.reduceLE, Int.reduceNeg, Int.reduceAdd, Int.reduceSub, Int.reduceMul, Int.reduceToNat, J_shl, J_shr, V_ite, true_or, or_true, nz_j, J_div, J_rem, Option.bind_some, Option.toList_some, Option.toList_none, List.cons_append, List.nil_append]
end TRAIL
