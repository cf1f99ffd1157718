/-! THE CLASS: alarms -/
theorem NC_fr {μ : rM} {I I' S L T : Nat → Int → Int} {n s l t : Nat} (h : NC μ I n s l t S L T) (hs : ∀ a, s ≤ a → a < s + 13 → I' a = I a) (hl : ∀ a, l ≤ a → a < l + 2 → I' a = I a) (ht : ∀ a, t ≤ a → a < t + 5 → I' a = I a) (h1 : I' (n + 14) = I (n + 14)) (h2 : I' (n + 15) = I (n + 15)) : NC μ I' n s l t S L T := by
  obtain ⟨hN, h0, g1, g2, hS, hV, hL, hLV, hT, hTV, hA, hD, hI⟩ := h
  exact ⟨hN, h0, g1, g2, hS.fr hs, hV, hL.fr hl, hLV, hT.fr ht, hTV, hA, by rw [h1]; exact hD, by rw [h2]; exact hI⟩
theorem NO_fr {μ : rM} {I I' S L T : Nat → Int → Int} {lo s l t : Nat} (h : NO μ I lo s l t S L T) (hs : s + 13 ≤ lo + 102 ∧ l + 2 ≤ lo + 102 ∧ t + 5 ≤ lo + 102) (hi : ∀ a, a < lo + 102 → I' a = I a) : NO μ I' lo s l t S L T := by
  obtain ⟨a1, a2, a3, a4⟩ := h
  refine ⟨NC_fr a1 (fun a _ _ => hi a (by omega)) (fun a _ _ => hi a (by omega)) (fun a _ _ => hi a (by omega)) (hi _ (by omega)) (hi _ (by omega)), ?_, ?_, ?_⟩
  · rw [hi _ (by omega)]; exact a2
  · rw [hi _ (by omega)]; exact a3
  · rw [hi _ (by omega)]; exact a4
section PURE
variable {S L T : Nat → Int → Int} {a b k j u w : Int} {si : Int → Int}
theorem seR_o (h : k ≠ j) (hj : 0 ≤ j) : seR S k a b w j u = seR S (-1) a b w j u := by
  unfold seR
  have h1 : ¬ (-1 = j) := by omega
  simp only [h, h1, false_and, if_false]
theorem rdT_o (h : k ≠ j) (hj : 0 ≤ j) : rdT S k a b si T j u = rdT S (-1) a b si T j u := by
  unfold rdT rqR dpR
  simp only [seR_o h hj]
theorem rdT_as {al : Int} (h : asS S k u = false) : rdT S al a b si T k u = -1 := if_pos (Or.inl h)
theorem rdT_ch {al : Int} (h : S 2 k = 2) : rdT S al a b si T k u = -1 := if_pos (Or.inr h)
def pA (S T : Nat → Int → Int) (k a b : Int) : Int → Bool := fun v => decide (k = k ∧ v = a) || decide (k = k ∧ v = b) || wkS S T k v
theorem pA_a : pA S T k a b a = true := by unfold pA; simp
theorem pA_b : pA S T k a b b = true := by unfold pA; simp
theorem pA_n (h1 : ¬ u = a) (h2 : ¬ u = b) : pA S T k a b u = wkS S T k u := by unfold pA; simp [h1, h2]
theorem sgS_congr {p q : Int → Bool} {l m : Int} (h : ∀ v, l ≤ v → v < m → p v = q v) : sgS p l m = sgS q l m := fo_congr _ _ _ (fun i x h1 h2 => by rw [h (l + i) (by omega) (by omega)])
theorem pA_sg (hS : 0 ≤ S 5 k) (hu : asS S k u = true) : sgS (pA S T k a b) (S 5 k) (u + 1) = seR S k a b (lwS S T k u) k u := sg_se hS hu
theorem rdT_own (hV : SV S) (hk : 0 ≤ k ∧ k < S 0 3) (hu : asS S k u = true) (hc : S 2 k ≠ 2) : rdT S k a b (siS S) T k u = if siS S k = -1 then dsS S k u (sgS (pA S T k a b) (S 5 k) (u + 1)) else rdN S (siS S) T k u := by
  have v := hV.2.2.1 k hk.1 hk.2
  have hi := siS_SIo hV k hk.1 hk.2
  have c0 : ¬ (asS S k u = false ∨ S 2 k = 2) := by
    rw [hu]
    intro q
    rcases q with q | q
    · cases q
    · exact hc q
  rw [pA_sg (by omega) hu]
  unfold rdN rdT rqR
  rw [if_neg c0, if_neg c0]
  by_cases c : siS S k = -1
  · rw [if_pos (Or.inr c), if_pos c]
    exact if_pos hu
  · have c4 : ¬ (S 2 k ≠ 3 ∨ siS S k = -1) := by
      intro q
      rcases q with q | q
      · exact q (hi.2.2 c)
      · exact c q
    rw [if_neg c4, if_neg c, if_neg c4]
    unfold dpR
    rw [seR_n (a := a) (b := b) (a' := 0) (b' := 0) (by omega)]
/-- an alarm twice at one unit is one alarm -/
theorem duA_1 (hV : SV S) (hk : 0 ≤ k ∧ k < S 0 3) : duA S L T k a a = duA S L T k a (-1) := by
  unfold duA dueT
  have v := hV.2.2.1 k hk.1 hk.2
  rw [ctT_congr (rd' := rdT S k a (-1) (siS S) T) hk (fun j u g1 g2 g3 g4 => by
    by_cases c : k = j
    · subst c
      cases has : asS S k u
      · rw [rdT_as has, rdT_as has]
      · by_cases hc : S 2 k = 2
        · rw [rdT_ch hc, rdT_ch hc]
        · rw [rdT_own hV hk has hc, rdT_own hV hk has hc, sgS_congr (p := pA S T k a a) (q := pA S T k a (-1)) (fun v q1 q2 => by
            unfold pA
            have : ¬ v = -1 := by omega
            simp [this])]
    · rw [rdT_o c g1, rdT_o c g1, rdT_n (si' := siS S) g1 rfl (siS_b hV).1, rdT_n (si' := siS S) g1 rfl (siS_b hV).1])]
/-- the most of a bed, one taken out -/
theorem mx_one {r : Int → Int} (hk : 0 ≤ k ∧ k < S 0 3) (hr : -1 ≤ r k) : (if r k < mx (fun j => decide (j ≠ k ∧ S 3 j = S 3 k ∧ S 4 j = S 4 k)) r (S 0 3) then mx (fun j => decide (j ≠ k ∧ S 3 j = S 3 k ∧ S 4 j = S 4 k)) r (S 0 3) else r k) = mx (fun j => decide (S 3 j = S 3 k ∧ S 4 j = S 4 k)) r (S 0 3) := by
  symm
  obtain ⟨q1, q2, q3⟩ := mx_sp (fun j => decide (j ≠ k ∧ S 3 j = S 3 k ∧ S 4 j = S 4 k)) r (n := S 0 3) (by omega)
  refine mx_eq _ _ (by omega) ?_ ?_ ?_
  · split <;> omega
  · intro i h1 h2 h3
    rw [decide_eq_true_eq] at h3
    by_cases hi : i = k
    · subst hi; split <;> omega
    · have := q2 i h1 h2 (by rw [decide_eq_true_eq]; exact ⟨hi, h3⟩)
      split <;> omega
  · right
    split
    · rename_i h
      rcases q3 with q3 | ⟨i, r1, r2, r3, r4⟩
      · omega
      · rw [decide_eq_true_eq] at r3
        exact ⟨i, r1, r2, by rw [decide_eq_true_eq]; exact r3.2, r4⟩
    · exact ⟨k, hk.1, hk.2, by simp, rfl⟩
/-- what is read beside one -/
def bsA (S L T : Nat → Int → Int) (k u : Int) : Int := if L 0 4 = 0 then -1 else mx (fun j => decide (j ≠ k ∧ S 3 j = S 3 k ∧ S 4 j = S 4 k)) (fun j => rdN S (siS S) T j u) (S 0 3)
theorem bsA_r (hV : SV S) (hk : 0 ≤ k ∧ k < S 0 3) (hr : -1 ≤ rdT S k a b (siS S) T k u) : (if rdT S k a b (siS S) T k u < bsA S L T k u then bsA S L T k u else rdT S k a b (siS S) T k u) = if L 0 4 = 0 then rdT S k a b (siS S) T k u else mx (fun j => decide (S 3 j = S 3 k ∧ S 4 j = S 4 k)) (fun j => rdT S k a b (siS S) T j u) (S 0 3) := by
  unfold bsA
  by_cases c : L 0 4 = 0
  · rw [if_pos c, if_pos c, if_neg (by omega)]
  · rw [if_neg c, if_neg c]
    have e : mx (fun j => decide (j ≠ k ∧ S 3 j = S 3 k ∧ S 4 j = S 4 k)) (fun j => rdN S (siS S) T j u) (S 0 3) = mx (fun j => decide (j ≠ k ∧ S 3 j = S 3 k ∧ S 4 j = S 4 k)) (fun j => rdT S k a b (siS S) T j u) (S 0 3) := fo_congr _ _ _ (fun j x g1 g2 => by
      dsimp only
      by_cases cj : j = k
      · simp [cj]
      · have e' : rdT S k a b (siS S) T j u = rdN S (siS S) T j u := by rw [rdT_o (fun z => cj z.symm) g1, rdT_n (si' := siS S) g1 rfl (siS_b hV).1]
        simp only [e'])
    rw [e]
    exact mx_one (r := fun j => rdT S k a b (siS S) T j u) hk hr
theorem bsA_b (hV : SV S) (hu : 0 ≤ u ∧ u < 36) : -1 ≤ bsA S L T k u ∧ bsA S L T k u ≤ 100 := by
  unfold bsA
  have v := hV.1
  split
  · omega
  · exact mx_b _ _ (by omega) (by omega) (fun i h1 h2 _ => (rdT_b hV ⟨h1, h2⟩ hu (siS_b hV)).2)
end PURE
section CLASS
variable {E : (Nat → Value) × (Nat → Nat)} {lo d s l t : Nat} {μ : rM} {I S L T R : Nat → Int → Int} {x y z w k u n h a b : Int} {bb : Bool}
theorem dba_sp (hd : 3 ≤ d) (hC : CO μ lo) (hN : NO μ I lo s l t S L T) (hk : 0 ≤ k ∧ k < S 0 3) (ha : 0 ≤ a ∧ a < 36) (hb : 0 ≤ b ∧ b < 36) (hB : ∀ u, 0 ≤ u → u < 36 → I (lo + 102 + 19) u = bsA S L T k u) : cl E lo d 41 [.ref ((lo + 102)), .int (J (k)), .int (J (a)), .int (J (b))] (mj μ I) = some (some (.int (J (duA S L T k a b))), mj μ I) := by
  obtain ⟨d, rfl⟩ : ∃ e, d = e + 1 := ⟨d - 1, by omega⟩
  obtain ⟨p0, p1⟩ := hC.p
  have hP := hC.P102
  have hNC := hN.1
  have hsi := hN.2.2.1 k hk.1 hk.2
  have hrd := fun u hu => hN.rd (k := k) (u := u) hk hu
  obtain ⟨hN, h0, h1, h2, hS, hV, hL, hLV, hT, hTV, hA, hD, hI⟩ := id hNC
  have hl : lo ≤ lo + 84 := by omega
  have v := hV.1
  have lv := hLV.1
  have vk := hV.2.2.1 k hk.1 hk.2
  have ub := upS_b hV hk
  have ur := upS_r hV hk
  have hup := up_sp (E := E) (lo := lo) (d := d) (by omega) hS hV hk
  unfold duA dueT
  by_cases hc : S 2 k = 2
  · have e0 : sm (ctT S L T (rdT S k a b (siS S) T) k) 36 = 0 := by
      have z := sm_congr (ctT S L T (rdT S k a b (siS S) T) k) (fun _ => 0) (n := 36) (fun i g1 g2 => by
        unfold ctT cgG
        simp only [rdT_ch hc]
        simp)
      rw [z]
      decide
    rw [e0, if_pos (by omega)]
    simp (disch := omega) only [b41_0, b41_20, e41, gO_P hP, gR_P4 hP, gR_P6 hP, gR_P7 hP, gR_P8 hP, gR_P9 hP, gR_P10 hP, al_P14 hP, al_P15 hP, al_P16 hP, al_P17 hP, al_P18 hP, al_P19 hP, rd_P14 hP, rd_P15 hP, rd_P16 hP, rd_P17 hP, rd_P18 hP, rd_P19 hP, gR_k p0, gO_N hN, gR_N3 hN, gR_N4 hN, gR_N5 hN, gR_N6 hN, al_N14 hN, al_N15 hN, al_N16 hN, al_N17 hN, rd_N14 hN, rd_N15 hN, rd_N16 hN, rd_N17 hN, gP_N hN hl, wr_N14 hN hl, wr_N15 hN hl, wr_N16 hN hl, wr_N17 hN hl, gR_k h0, gR_k h1, gR_k h2, gO_S hS.1, gR_S2 hS.1, gR_S4 hS.1, gR_S5 hS.1, gR_S6 hS.1, gR_S7 hS.1, gR_S8 hS.1, gR_S9 hS.1, gR_S10 hS.1, gR_S11 hS.1, gR_S12 hS.1, gR_S14 hS.1, gR_S15 hS.1, al_S1 hS.1, al_S2 hS.1, al_S3 hS.1, al_S4 hS.1, al_S5 hS.1, al_S6 hS.1, al_S7 hS.1, al_S8 hS.1, al_S9 hS.1, al_S10 hS.1, al_S11 hS.1, al_S12 hS.1, rd_S1 hS.1, rd_S2 hS.1, rd_S3 hS.1, rd_S4 hS.1, rd_S5 hS.1, rd_S6 hS.1, rd_S7 hS.1, rd_S8 hS.1, rd_S9 hS.1, rd_S10 hS.1, rd_S11 hS.1, rd_S12 hS.1, vS_0 hS, vS_1 hS, vS_2 hS, vS_3 hS, vS_4 hS, vS_5 hS, vS_6 hS, vS_7 hS, vS_8 hS, vS_9 hS, vS_10 hS, vS_11 hS, vS_12 hS, gO_L hL.1, gR_L5 hL.1, al_L1 hL.1, rd_L1 hL.1, vL_0 hL, vL_1 hL, gO_T hT.1, gR_T3 hT.1, gR_T4 hT.1, gR_T5 hT.1, gR_T6 hT.1, al_T1 hT.1, al_T2 hT.1, al_T3 hT.1, al_T4 hT.1, rd_T1 hT.1, rd_T2 hT.1, rd_T3 hT.1, rd_T4 hT.1, vT_0 hT, vT_1 hT, vT_2 hT, vT_3 hT, vT_4 hT, hc, Jl0, Jl1, Jl2, Jl3, Jl4, Jl5, Jl6, Jl7, Jl8, Jl9, Jl10, Jl11, Jl12, Jl13, Jl14, Jl15, Jl16, Jl17, Jl18, Jl19, Jl20, Jl22, Jl24, Jl28, Jl30, Jl31, Jl32, Jl35, Jl36, Jl37, Jl38, Jl39, Jl40, Jl48, Jl57, Jl59, Jl60, Jl61, Jl63, Jl64, Jl68, Jl69, Jl96, Jl97, Jl98, Jl99, Jl100, Jl122, Jl149, Jl150, Jl165, Jl255, Jl511, Jl512, Jl600, Jl610, Jl940, Jl968, Jl999, Jl1134, Jl1152, Jl2048, Jl4608, Jl9999, Jl99999, Jl100000, Jl147456, Jl12345, Jl1103515245, Jl100000000, Jlm1, Jlm2, J_add, J_sub, J_mul, J_lt, J_le, J_eq, J_ite, J_cl, ri_j, wi_j, b2i_z, b2i_o, b2i_zo, Int.cast_ofNat_Int, Int.natCast_zero, Int.natCast_one, if_true, if_false, ite_self, Int.le_refl, J_bit, J_or, J_neg, J_oN, Int.reduceEq, Int.reduceLT, Int.reduceLE, Int.reduceNeg, Int.reduceAdd, Int.reduceSub, Int.reduceMul, Int.reduceToNat, J_shl, J_shr, V_ite, true_or, or_true, nz_j, J_div, J_rem, Option.bind_some, Option.toList_some, Option.toList_none, List.cons_append, List.nil_append, Jl21, Jl23, Jl25, Jl74, Jl83, Jl288, Jl324, Jl1800, Jlm8]
  · have hr0 : ∀ u, 0 ≤ u → u < 36 → -1 ≤ rdT S k a b (siS S) T k u ∧ rdT S k a b (siS S) T k u ≤ 100 := fun u g1 g2 => rdT_b hV hk ⟨g1, g2⟩ (siS_b hV)
    have rb : ∀ j u, 0 ≤ j → j < S 0 3 → 0 ≤ u → u < 36 → -1 ≤ rdT S k a b (siS S) T j u ∧ rdT S k a b (siS S) T j u ≤ 100 := fun j u q1 q2 g1 g2 => rdT_b hV ⟨q1, q2⟩ ⟨g1, g2⟩ (siS_b hV)
    obtain ⟨rd, erd⟩ : ∃ rd, rd = rdT S k a b (siS S) T := ⟨_, rfl⟩
    have cb : ∀ u, 0 ≤ u → u < 36 → 0 ≤ ctT S L T rd k u ∧ ctT S L T rd k u ≤ 40000 := fun u g1 g2 => by
      have q1 := cgG_b hV hLV (r := fun i => rd i u) hk ⟨g1, g2⟩ (fun j q1 q2 => by rw [erd]; exact rb j u q1 q2 g1 g2)
      have q2 := hTV.2.1 u g1 g2
      unfold ctT
      split
      · have h3 := mul_b (a := T 3 u) (b := cgG S L (fun i => rd i u) k u) (A := 40) (B := 1000) (by omega) (by omega)
        have h4 := Int.mul_nonneg (a := T 3 u) (b := cgG S L (fun i => rd i u) k u) (by omega) (by omega)
        omega
      · omega
    rw [← erd]
    have z0 : sm (ctT S L T rd k) (S 5 k) = 0 := by
      have z := sm_congr (ctT S L T rd k) (fun _ => 0) (n := S 5 k) (fun i g1 g2 => by
        unfold ctT cgG
        have : asS S k i = false := by unfold asS; rw [decide_eq_false]; omega
        rw [erd]
        simp only [rdT_as this]
        simp)
      rw [z]
      have := sm_b (fun _ => 0) (n := S 5 k) (A := 0) (B := 0) (by omega) (fun i _ _ => by omega)
      omega
    have z1 : sm (ctT S L T rd k) 36 = sm (ctT S L T rd k) (upS S k) := fo_tail _ _ (by omega) (fun i x g1 g2 => by
      unfold ctT cgG
      have : asS S k i = false := by unfold asS; rw [decide_eq_false]; omega
      rw [erd]
      simp only [rdT_as this]
      simp)
    obtain ⟨q, LL⟩ := loopq (fun u (q : Option Value × Option Value) => ex PG E lo d 41 46 [some (.ref ((lo + 102))), some (.int (J (k))), some (.int (J (a))), some (.int (J (b))), some (.ref s), some (.int (J ((sgS (pA S T k a b) (S 5 k) u)))), some (.int (J ((upS S k)))), some (.int (J ((sm (ctT S L T rd k) u)))), some (.int (J (u))), q.1, q.2] [] (mj μ I)) (a := S 5 k) (n := upS S k) (fun u q g1 g2 => by
      have has : asS S k u = true := by unfold asS; rw [decide_eq_true_eq]; omega
      have hwk := wk_sp (E := E) (lo := lo) (d := d) (n := lo + 84) (k := k) (u := u) (by omega) hNC hl hk (by omega)
      have es := sgS_s (p := pA S T k a b) (l := S 5 k) (u := u) g1
      have sb : S 5 k ≤ sgS (pA S T k a b) (S 5 k) (u + 1) ∧ sgS (pA S T k a b) (S 5 k) (u + 1) ≤ u := by
        rw [pA_sg (by omega) has]
        exact seR_b g1 (lwS_b (by omega)).2
      have s1 : ex PG E lo d 41 46 [some (.ref ((lo + 102))), some (.int (J (k))), some (.int (J (a))), some (.int (J (b))), some (.ref s), some (.int (J ((sgS (pA S T k a b) (S 5 k) u)))), some (.int (J ((upS S k)))), some (.int (J ((sm (ctT S L T rd k) u)))), some (.int (J (u))), q.1, q.2] [] (mj μ I) = ex PG E lo d 41 89 [some (.ref ((lo + 102))), some (.int (J (k))), some (.int (J (a))), some (.int (J (b))), some (.ref s), some (.int (J ((sgS (pA S T k a b) (S 5 k) (u + 1))))), some (.int (J ((upS S k)))), some (.int (J ((sm (ctT S L T rd k) u)))), some (.int (J (u))), q.1, q.2] [] (mj μ I) := by
        rw [es]
        by_cases c1 : u = a
        · subst c1
          rw [if_pos pA_a]
          simp (disch := omega) only [b41_46, b41_53, b41_60, b41_85, Jl0, Jl1, Jl2, Jl3, Jl4, Jl5, Jl6, Jl7, Jl8, Jl9, Jl10, Jl11, Jl12, Jl13, Jl14, Jl15, Jl16, Jl17, Jl18, Jl19, Jl20, Jl22, Jl24, Jl28, Jl30, Jl31, Jl32, Jl35, Jl36, Jl37, Jl38, Jl39, Jl40, Jl48, Jl57, Jl59, Jl60, Jl61, Jl63, Jl64, Jl68, Jl69, Jl96, Jl97, Jl98, Jl99, Jl100, Jl122, Jl149, Jl150, Jl165, Jl255, Jl511, Jl512, Jl600, Jl610, Jl940, Jl968, Jl999, Jl1134, Jl1152, Jl2048, Jl4608, Jl9999, Jl99999, Jl100000, Jl147456, Jl12345, Jl1103515245, Jl100000000, Jlm1, Jlm2, J_add, J_sub, J_mul, J_lt, J_le, J_eq, J_ite, J_cl, ri_j, wi_j, b2i_z, b2i_o, b2i_zo, Int.cast_ofNat_Int, Int.natCast_zero, Int.natCast_one, if_true, if_false, ite_self, Int.le_refl, J_bit, J_or, J_neg, J_oN, Int.reduceEq, Int.reduceLT, Int.reduceLE, Int.reduceNeg, Int.reduceAdd, Int.reduceSub, Int.reduceMul, Int.reduceToNat, J_shl, J_shr, V_ite, true_or, or_true, nz_j, J_div, J_rem, Option.bind_some, Option.toList_some, Option.toList_none, List.cons_append, List.nil_append, Jl21, Jl23, Jl25, Jl74, Jl83, Jl288, Jl324, Jl1800, Jlm8]
          repeat (first | rw [if_neg (by omega)] | rw [if_pos (by omega)])
        · by_cases c2 : u = b
          · subst c2
            rw [if_pos pA_b]
            simp (disch := omega) only [b41_46, b41_53, b41_60, b41_66, b41_85, Jl0, Jl1, Jl2, Jl3, Jl4, Jl5, Jl6, Jl7, Jl8, Jl9, Jl10, Jl11, Jl12, Jl13, Jl14, Jl15, Jl16, Jl17, Jl18, Jl19, Jl20, Jl22, Jl24, Jl28, Jl30, Jl31, Jl32, Jl35, Jl36, Jl37, Jl38, Jl39, Jl40, Jl48, Jl57, Jl59, Jl60, Jl61, Jl63, Jl64, Jl68, Jl69, Jl96, Jl97, Jl98, Jl99, Jl100, Jl122, Jl149, Jl150, Jl165, Jl255, Jl511, Jl512, Jl600, Jl610, Jl940, Jl968, Jl999, Jl1134, Jl1152, Jl2048, Jl4608, Jl9999, Jl99999, Jl100000, Jl147456, Jl12345, Jl1103515245, Jl100000000, Jlm1, Jlm2, J_add, J_sub, J_mul, J_lt, J_le, J_eq, J_ite, J_cl, ri_j, wi_j, b2i_z, b2i_o, b2i_zo, Int.cast_ofNat_Int, Int.natCast_zero, Int.natCast_one, if_true, if_false, ite_self, Int.le_refl, J_bit, J_or, J_neg, J_oN, Int.reduceEq, Int.reduceLT, Int.reduceLE, Int.reduceNeg, Int.reduceAdd, Int.reduceSub, Int.reduceMul, Int.reduceToNat, J_shl, J_shr, V_ite, true_or, or_true, nz_j, J_div, J_rem, Option.bind_some, Option.toList_some, Option.toList_none, List.cons_append, List.nil_append, Jl21, Jl23, Jl25, Jl74, Jl83, Jl288, Jl324, Jl1800, Jlm8]
            repeat (first | rw [if_neg (by omega)] | rw [if_pos (by omega)])
          · rw [pA_n c1 c2]
            cases hw : wkS S T k u with
            | false =>
              rw [hw] at hwk
              rw [if_neg (by decide)]
              simp (disch := omega) only [b41_46, b41_53, b41_60, b41_66, b41_72, b41_82, gO_P hP, gR_P4 hP, gR_P6 hP, gR_P7 hP, gR_P8 hP, gR_P9 hP, gR_P10 hP, al_P14 hP, al_P15 hP, al_P16 hP, al_P17 hP, al_P18 hP, al_P19 hP, rd_P14 hP, rd_P15 hP, rd_P16 hP, rd_P17 hP, rd_P18 hP, rd_P19 hP, gR_k p0, gO_N hN, gR_N3 hN, gR_N4 hN, gR_N5 hN, gR_N6 hN, al_N14 hN, al_N15 hN, al_N16 hN, al_N17 hN, rd_N14 hN, rd_N15 hN, rd_N16 hN, rd_N17 hN, gP_N hN hl, wr_N14 hN hl, wr_N15 hN hl, wr_N16 hN hl, wr_N17 hN hl, gR_k h0, gR_k h1, gR_k h2, gO_S hS.1, gR_S2 hS.1, gR_S4 hS.1, gR_S5 hS.1, gR_S6 hS.1, gR_S7 hS.1, gR_S8 hS.1, gR_S9 hS.1, gR_S10 hS.1, gR_S11 hS.1, gR_S12 hS.1, gR_S14 hS.1, gR_S15 hS.1, al_S1 hS.1, al_S2 hS.1, al_S3 hS.1, al_S4 hS.1, al_S5 hS.1, al_S6 hS.1, al_S7 hS.1, al_S8 hS.1, al_S9 hS.1, al_S10 hS.1, al_S11 hS.1, al_S12 hS.1, rd_S1 hS.1, rd_S2 hS.1, rd_S3 hS.1, rd_S4 hS.1, rd_S5 hS.1, rd_S6 hS.1, rd_S7 hS.1, rd_S8 hS.1, rd_S9 hS.1, rd_S10 hS.1, rd_S11 hS.1, rd_S12 hS.1, vS_0 hS, vS_1 hS, vS_2 hS, vS_3 hS, vS_4 hS, vS_5 hS, vS_6 hS, vS_7 hS, vS_8 hS, vS_9 hS, vS_10 hS, vS_11 hS, vS_12 hS, gO_L hL.1, gR_L5 hL.1, al_L1 hL.1, rd_L1 hL.1, vL_0 hL, vL_1 hL, gO_T hT.1, gR_T3 hT.1, gR_T4 hT.1, gR_T5 hT.1, gR_T6 hT.1, al_T1 hT.1, al_T2 hT.1, al_T3 hT.1, al_T4 hT.1, rd_T1 hT.1, rd_T2 hT.1, rd_T3 hT.1, rd_T4 hT.1, vT_0 hT, vT_1 hT, vT_2 hT, vT_3 hT, vT_4 hT, hwk, b2i_f, Jl0, Jl1, Jl2, Jl3, Jl4, Jl5, Jl6, Jl7, Jl8, Jl9, Jl10, Jl11, Jl12, Jl13, Jl14, Jl15, Jl16, Jl17, Jl18, Jl19, Jl20, Jl22, Jl24, Jl28, Jl30, Jl31, Jl32, Jl35, Jl36, Jl37, Jl38, Jl39, Jl40, Jl48, Jl57, Jl59, Jl60, Jl61, Jl63, Jl64, Jl68, Jl69, Jl96, Jl97, Jl98, Jl99, Jl100, Jl122, Jl149, Jl150, Jl165, Jl255, Jl511, Jl512, Jl600, Jl610, Jl940, Jl968, Jl999, Jl1134, Jl1152, Jl2048, Jl4608, Jl9999, Jl99999, Jl100000, Jl147456, Jl12345, Jl1103515245, Jl100000000, Jlm1, Jlm2, J_add, J_sub, J_mul, J_lt, J_le, J_eq, J_ite, J_cl, ri_j, wi_j, b2i_z, b2i_o, b2i_zo, Int.cast_ofNat_Int, Int.natCast_zero, Int.natCast_one, if_true, if_false, ite_self, Int.le_refl, J_bit, J_or, J_neg, J_oN, Int.reduceEq, Int.reduceLT, Int.reduceLE, Int.reduceNeg, Int.reduceAdd, Int.reduceSub, Int.reduceMul, Int.reduceToNat, J_shl, J_shr, V_ite, true_or, or_true, nz_j, J_div, J_rem, Option.bind_some, Option.toList_some, Option.toList_none, List.cons_append, List.nil_append, Jl21, Jl23, Jl25, Jl74, Jl83, Jl288, Jl324, Jl1800, Jlm8]
              repeat (first | rw [if_neg (by omega)] | rw [if_pos (by omega)])
            | true =>
              rw [hw] at hwk
              rw [if_pos rfl]
              simp (disch := omega) only [b41_46, b41_53, b41_60, b41_66, b41_72, b41_82, b41_85, gO_P hP, gR_P4 hP, gR_P6 hP, gR_P7 hP, gR_P8 hP, gR_P9 hP, gR_P10 hP, al_P14 hP, al_P15 hP, al_P16 hP, al_P17 hP, al_P18 hP, al_P19 hP, rd_P14 hP, rd_P15 hP, rd_P16 hP, rd_P17 hP, rd_P18 hP, rd_P19 hP, gR_k p0, gO_N hN, gR_N3 hN, gR_N4 hN, gR_N5 hN, gR_N6 hN, al_N14 hN, al_N15 hN, al_N16 hN, al_N17 hN, rd_N14 hN, rd_N15 hN, rd_N16 hN, rd_N17 hN, gP_N hN hl, wr_N14 hN hl, wr_N15 hN hl, wr_N16 hN hl, wr_N17 hN hl, gR_k h0, gR_k h1, gR_k h2, gO_S hS.1, gR_S2 hS.1, gR_S4 hS.1, gR_S5 hS.1, gR_S6 hS.1, gR_S7 hS.1, gR_S8 hS.1, gR_S9 hS.1, gR_S10 hS.1, gR_S11 hS.1, gR_S12 hS.1, gR_S14 hS.1, gR_S15 hS.1, al_S1 hS.1, al_S2 hS.1, al_S3 hS.1, al_S4 hS.1, al_S5 hS.1, al_S6 hS.1, al_S7 hS.1, al_S8 hS.1, al_S9 hS.1, al_S10 hS.1, al_S11 hS.1, al_S12 hS.1, rd_S1 hS.1, rd_S2 hS.1, rd_S3 hS.1, rd_S4 hS.1, rd_S5 hS.1, rd_S6 hS.1, rd_S7 hS.1, rd_S8 hS.1, rd_S9 hS.1, rd_S10 hS.1, rd_S11 hS.1, rd_S12 hS.1, vS_0 hS, vS_1 hS, vS_2 hS, vS_3 hS, vS_4 hS, vS_5 hS, vS_6 hS, vS_7 hS, vS_8 hS, vS_9 hS, vS_10 hS, vS_11 hS, vS_12 hS, gO_L hL.1, gR_L5 hL.1, al_L1 hL.1, rd_L1 hL.1, vL_0 hL, vL_1 hL, gO_T hT.1, gR_T3 hT.1, gR_T4 hT.1, gR_T5 hT.1, gR_T6 hT.1, al_T1 hT.1, al_T2 hT.1, al_T3 hT.1, al_T4 hT.1, rd_T1 hT.1, rd_T2 hT.1, rd_T3 hT.1, rd_T4 hT.1, vT_0 hT, vT_1 hT, vT_2 hT, vT_3 hT, vT_4 hT, hwk, b2i_t, Jl0, Jl1, Jl2, Jl3, Jl4, Jl5, Jl6, Jl7, Jl8, Jl9, Jl10, Jl11, Jl12, Jl13, Jl14, Jl15, Jl16, Jl17, Jl18, Jl19, Jl20, Jl22, Jl24, Jl28, Jl30, Jl31, Jl32, Jl35, Jl36, Jl37, Jl38, Jl39, Jl40, Jl48, Jl57, Jl59, Jl60, Jl61, Jl63, Jl64, Jl68, Jl69, Jl96, Jl97, Jl98, Jl99, Jl100, Jl122, Jl149, Jl150, Jl165, Jl255, Jl511, Jl512, Jl600, Jl610, Jl940, Jl968, Jl999, Jl1134, Jl1152, Jl2048, Jl4608, Jl9999, Jl99999, Jl100000, Jl147456, Jl12345, Jl1103515245, Jl100000000, Jlm1, Jlm2, J_add, J_sub, J_mul, J_lt, J_le, J_eq, J_ite, J_cl, ri_j, wi_j, b2i_z, b2i_o, b2i_zo, Int.cast_ofNat_Int, Int.natCast_zero, Int.natCast_one, if_true, if_false, ite_self, Int.le_refl, J_bit, J_or, J_neg, J_oN, Int.reduceEq, Int.reduceLT, Int.reduceLE, Int.reduceNeg, Int.reduceAdd, Int.reduceSub, Int.reduceMul, Int.reduceToNat, J_shl, J_shr, V_ite, true_or, or_true, nz_j, J_div, J_rem, Option.bind_some, Option.toList_some, Option.toList_none, List.cons_append, List.nil_append, Jl21, Jl23, Jl25, Jl74, Jl83, Jl288, Jl324, Jl1800, Jlm8]
              repeat (first | rw [if_neg (by omega)] | rw [if_pos (by omega)])
      rw [s1]
      have sb2 := sm_b (ctT S L T rd k) (n := u) (A := 0) (B := 40000) (by omega) (fun i q1 q2 => cb i q1 (by omega))
      have hBu := hB u (by omega) (by omega)
      have bb := bsA_b (L := L) (T := T) (k := k) hV (u := u) (by omega)
      have hR := bsA_r (L := L) (u := u) (a := a) (b := b) (T := T) hV hk (hr0 u (by omega) (by omega)).1
      have hr := hr0 u (by omega) (by omega)
      have hown := rdT_own (T := T) (a := a) (b := b) hV hk has hc
      have hds := ds_sp (E := E) (lo := lo) (d := d) (u := u) (w := sgS (pA S T k a b) (S 5 k) (u + 1)) (by omega) hS hV hk (by omega) (by omega)
      have hrr := rd_sp (E := E) (lo := lo) (d := d) (n := lo + 84) (k := k) (u := u) (by omega) hNC hl hk (by omega)
      rw [hrd u (by omega)] at hrr
      have hpo := po_sp (E := E) (lo := lo) (d := d) (u := u) (by omega) hS hV hk (by omega)
      have ru : rd k u ≠ -1 := by
        rw [erd, hown]
        have q1 := dsS_b hV hk (u := u) (w := sgS (pA S T k a b) (S 5 k) (u + 1)) (by omega) (by omega)
        split
        · omega
        · rename_i c
          have hi := siS_SIo hV k hk.1 hk.2
          unfold rdN rdT rqR
          rw [if_neg (by rw [has]; intro z; rcases z with z | z; cases z; exact hc z), if_neg (by intro z; rcases z with z | z; exact z (hi.2.2 c); exact c z)]
          have := dpR_b hV (al := -1) (a1 := 0) (a2 := 0) (k := siS S k) (u := u) (W := fun j => lwS S T j u) (by omega) (by omega) (lwS_b (by omega)).2
          omega
      have hm := hR
      obtain ⟨rv, erv⟩ : ∃ rv, rv = (if L 0 4 = 0 then rdT S k a b (siS S) T k u else mx (fun j => decide (S 3 j = S 3 k ∧ S 4 j = S 4 k)) (fun j => rdT S k a b (siS S) T j u) (S 0 3)) := ⟨_, rfl⟩
      rw [← erv] at hm
      have rvb : -1 ≤ rv ∧ rv ≤ 100 := by rw [← hm]; split <;> omega
      have hch := ch_sp (E := E) (lo := lo) (d := d) (r := rv) (u := u) (h := S 3 k) (p := poS S k u) (by omega) hL hLV rvb (by omega) (by omega)
      have ec : ctT S L T rd k u = if S 3 k = T 2 u then T 3 u * chS L rv u (S 3 k) (poS S k u) else 0 := by
        unfold ctT cgG
        rw [if_neg ru, erv, erd]
      rw [sm_s _ (by omega), ec]
      have tv := hTV.2.1 u (by omega) (by omega)
      have sib := siS_b hV (k := k)
      by_cases ct : S 3 k = T 2 u
      · rw [if_pos ct]
        by_cases cs : siS S k = -1
        · rw [if_pos cs] at hown
          rw [hown] at hm hr
          refine ⟨(some (.int (J (dsS S k u (sgS (pA S T k a b) (S 5 k) (u + 1))))), some (.int (J rv))), ?_⟩
          simp (disch := omega) only [b41_89, b41_112, b41_125, b41_135, b41_148, b41_205, b41_208, b41_212, gO_P hP, gR_P4 hP, gR_P6 hP, gR_P7 hP, gR_P8 hP, gR_P9 hP, gR_P10 hP, al_P14 hP, al_P15 hP, al_P16 hP, al_P17 hP, al_P18 hP, al_P19 hP, rd_P14 hP, rd_P15 hP, rd_P16 hP, rd_P17 hP, rd_P18 hP, rd_P19 hP, gR_k p0, gO_N hN, gR_N3 hN, gR_N4 hN, gR_N5 hN, gR_N6 hN, al_N14 hN, al_N15 hN, al_N16 hN, al_N17 hN, rd_N14 hN, rd_N15 hN, rd_N16 hN, rd_N17 hN, gP_N hN hl, wr_N14 hN hl, wr_N15 hN hl, wr_N16 hN hl, wr_N17 hN hl, gR_k h0, gR_k h1, gR_k h2, gO_S hS.1, gR_S2 hS.1, gR_S4 hS.1, gR_S5 hS.1, gR_S6 hS.1, gR_S7 hS.1, gR_S8 hS.1, gR_S9 hS.1, gR_S10 hS.1, gR_S11 hS.1, gR_S12 hS.1, gR_S14 hS.1, gR_S15 hS.1, al_S1 hS.1, al_S2 hS.1, al_S3 hS.1, al_S4 hS.1, al_S5 hS.1, al_S6 hS.1, al_S7 hS.1, al_S8 hS.1, al_S9 hS.1, al_S10 hS.1, al_S11 hS.1, al_S12 hS.1, rd_S1 hS.1, rd_S2 hS.1, rd_S3 hS.1, rd_S4 hS.1, rd_S5 hS.1, rd_S6 hS.1, rd_S7 hS.1, rd_S8 hS.1, rd_S9 hS.1, rd_S10 hS.1, rd_S11 hS.1, rd_S12 hS.1, vS_0 hS, vS_1 hS, vS_2 hS, vS_3 hS, vS_4 hS, vS_5 hS, vS_6 hS, vS_7 hS, vS_8 hS, vS_9 hS, vS_10 hS, vS_11 hS, vS_12 hS, gO_L hL.1, gR_L5 hL.1, al_L1 hL.1, rd_L1 hL.1, vL_0 hL, vL_1 hL, gO_T hT.1, gR_T3 hT.1, gR_T4 hT.1, gR_T5 hT.1, gR_T6 hT.1, al_T1 hT.1, al_T2 hT.1, al_T3 hT.1, al_T4 hT.1, rd_T1 hT.1, rd_T2 hT.1, rd_T3 hT.1, rd_T4 hT.1, vT_0 hT, vT_1 hT, vT_2 hT, vT_3 hT, vT_4 hT, hds, hpo, hBu, hm, hch, hsi, cs, ct.symm, Jl0, Jl1, Jl2, Jl3, Jl4, Jl5, Jl6, Jl7, Jl8, Jl9, Jl10, Jl11, Jl12, Jl13, Jl14, Jl15, Jl16, Jl17, Jl18, Jl19, Jl20, Jl22, Jl24, Jl28, Jl30, Jl31, Jl32, Jl35, Jl36, Jl37, Jl38, Jl39, Jl40, Jl48, Jl57, Jl59, Jl60, Jl61, Jl63, Jl64, Jl68, Jl69, Jl96, Jl97, Jl98, Jl99, Jl100, Jl122, Jl149, Jl150, Jl165, Jl255, Jl511, Jl512, Jl600, Jl610, Jl940, Jl968, Jl999, Jl1134, Jl1152, Jl2048, Jl4608, Jl9999, Jl99999, Jl100000, Jl147456, Jl12345, Jl1103515245, Jl100000000, Jlm1, Jlm2, J_add, J_sub, J_mul, J_lt, J_le, J_eq, J_ite, J_cl, ri_j, wi_j, b2i_z, b2i_o, b2i_zo, Int.cast_ofNat_Int, Int.natCast_zero, Int.natCast_one, if_true, if_false, ite_self, Int.le_refl, J_bit, J_or, J_neg, J_oN, Int.reduceEq, Int.reduceLT, Int.reduceLE, Int.reduceNeg, Int.reduceAdd, Int.reduceSub, Int.reduceMul, Int.reduceToNat, J_shl, J_shr, V_ite, true_or, or_true, nz_j, J_div, J_rem, Option.bind_some, Option.toList_some, Option.toList_none, List.cons_append, List.nil_append, Jl21, Jl23, Jl25, Jl74, Jl83, Jl288, Jl324, Jl1800, Jlm8]
        · rw [if_neg cs] at hown
          rw [hown] at hm hr
          refine ⟨(some (.int (J (rdN S (siS S) T k u))), some (.int (J rv))), ?_⟩
          simp (disch := omega) only [b41_89, b41_112, b41_138, b41_148, b41_205, b41_208, b41_212, gO_P hP, gR_P4 hP, gR_P6 hP, gR_P7 hP, gR_P8 hP, gR_P9 hP, gR_P10 hP, al_P14 hP, al_P15 hP, al_P16 hP, al_P17 hP, al_P18 hP, al_P19 hP, rd_P14 hP, rd_P15 hP, rd_P16 hP, rd_P17 hP, rd_P18 hP, rd_P19 hP, gR_k p0, gO_N hN, gR_N3 hN, gR_N4 hN, gR_N5 hN, gR_N6 hN, al_N14 hN, al_N15 hN, al_N16 hN, al_N17 hN, rd_N14 hN, rd_N15 hN, rd_N16 hN, rd_N17 hN, gP_N hN hl, wr_N14 hN hl, wr_N15 hN hl, wr_N16 hN hl, wr_N17 hN hl, gR_k h0, gR_k h1, gR_k h2, gO_S hS.1, gR_S2 hS.1, gR_S4 hS.1, gR_S5 hS.1, gR_S6 hS.1, gR_S7 hS.1, gR_S8 hS.1, gR_S9 hS.1, gR_S10 hS.1, gR_S11 hS.1, gR_S12 hS.1, gR_S14 hS.1, gR_S15 hS.1, al_S1 hS.1, al_S2 hS.1, al_S3 hS.1, al_S4 hS.1, al_S5 hS.1, al_S6 hS.1, al_S7 hS.1, al_S8 hS.1, al_S9 hS.1, al_S10 hS.1, al_S11 hS.1, al_S12 hS.1, rd_S1 hS.1, rd_S2 hS.1, rd_S3 hS.1, rd_S4 hS.1, rd_S5 hS.1, rd_S6 hS.1, rd_S7 hS.1, rd_S8 hS.1, rd_S9 hS.1, rd_S10 hS.1, rd_S11 hS.1, rd_S12 hS.1, vS_0 hS, vS_1 hS, vS_2 hS, vS_3 hS, vS_4 hS, vS_5 hS, vS_6 hS, vS_7 hS, vS_8 hS, vS_9 hS, vS_10 hS, vS_11 hS, vS_12 hS, gO_L hL.1, gR_L5 hL.1, al_L1 hL.1, rd_L1 hL.1, vL_0 hL, vL_1 hL, gO_T hT.1, gR_T3 hT.1, gR_T4 hT.1, gR_T5 hT.1, gR_T6 hT.1, al_T1 hT.1, al_T2 hT.1, al_T3 hT.1, al_T4 hT.1, rd_T1 hT.1, rd_T2 hT.1, rd_T3 hT.1, rd_T4 hT.1, vT_0 hT, vT_1 hT, vT_2 hT, vT_3 hT, vT_4 hT, hrr, hpo, hBu, hm, hch, hsi, cs, ct.symm, Jl0, Jl1, Jl2, Jl3, Jl4, Jl5, Jl6, Jl7, Jl8, Jl9, Jl10, Jl11, Jl12, Jl13, Jl14, Jl15, Jl16, Jl17, Jl18, Jl19, Jl20, Jl22, Jl24, Jl28, Jl30, Jl31, Jl32, Jl35, Jl36, Jl37, Jl38, Jl39, Jl40, Jl48, Jl57, Jl59, Jl60, Jl61, Jl63, Jl64, Jl68, Jl69, Jl96, Jl97, Jl98, Jl99, Jl100, Jl122, Jl149, Jl150, Jl165, Jl255, Jl511, Jl512, Jl600, Jl610, Jl940, Jl968, Jl999, Jl1134, Jl1152, Jl2048, Jl4608, Jl9999, Jl99999, Jl100000, Jl147456, Jl12345, Jl1103515245, Jl100000000, Jlm1, Jlm2, J_add, J_sub, J_mul, J_lt, J_le, J_eq, J_ite, J_cl, ri_j, wi_j, b2i_z, b2i_o, b2i_zo, Int.cast_ofNat_Int, Int.natCast_zero, Int.natCast_one, if_true, if_false, ite_self, Int.le_refl, J_bit, J_or, J_neg, J_oN, Int.reduceEq, Int.reduceLT, Int.reduceLE, Int.reduceNeg, Int.reduceAdd, Int.reduceSub, Int.reduceMul, Int.reduceToNat, J_shl, J_shr, V_ite, true_or, or_true, nz_j, J_div, J_rem, Option.bind_some, Option.toList_some, Option.toList_none, List.cons_append, List.nil_append, Jl21, Jl23, Jl25, Jl74, Jl83, Jl288, Jl324, Jl1800, Jlm8]
      · rw [if_neg ct, Int.add_zero]
        refine ⟨q, ?_⟩
        simp (disch := omega) only [b41_89, b41_212, gO_P hP, gR_P4 hP, gR_P6 hP, gR_P7 hP, gR_P8 hP, gR_P9 hP, gR_P10 hP, al_P14 hP, al_P15 hP, al_P16 hP, al_P17 hP, al_P18 hP, al_P19 hP, rd_P14 hP, rd_P15 hP, rd_P16 hP, rd_P17 hP, rd_P18 hP, rd_P19 hP, gR_k p0, gO_N hN, gR_N3 hN, gR_N4 hN, gR_N5 hN, gR_N6 hN, al_N14 hN, al_N15 hN, al_N16 hN, al_N17 hN, rd_N14 hN, rd_N15 hN, rd_N16 hN, rd_N17 hN, gP_N hN hl, wr_N14 hN hl, wr_N15 hN hl, wr_N16 hN hl, wr_N17 hN hl, gR_k h0, gR_k h1, gR_k h2, gO_S hS.1, gR_S2 hS.1, gR_S4 hS.1, gR_S5 hS.1, gR_S6 hS.1, gR_S7 hS.1, gR_S8 hS.1, gR_S9 hS.1, gR_S10 hS.1, gR_S11 hS.1, gR_S12 hS.1, gR_S14 hS.1, gR_S15 hS.1, al_S1 hS.1, al_S2 hS.1, al_S3 hS.1, al_S4 hS.1, al_S5 hS.1, al_S6 hS.1, al_S7 hS.1, al_S8 hS.1, al_S9 hS.1, al_S10 hS.1, al_S11 hS.1, al_S12 hS.1, rd_S1 hS.1, rd_S2 hS.1, rd_S3 hS.1, rd_S4 hS.1, rd_S5 hS.1, rd_S6 hS.1, rd_S7 hS.1, rd_S8 hS.1, rd_S9 hS.1, rd_S10 hS.1, rd_S11 hS.1, rd_S12 hS.1, vS_0 hS, vS_1 hS, vS_2 hS, vS_3 hS, vS_4 hS, vS_5 hS, vS_6 hS, vS_7 hS, vS_8 hS, vS_9 hS, vS_10 hS, vS_11 hS, vS_12 hS, gO_L hL.1, gR_L5 hL.1, al_L1 hL.1, rd_L1 hL.1, vL_0 hL, vL_1 hL, gO_T hT.1, gR_T3 hT.1, gR_T4 hT.1, gR_T5 hT.1, gR_T6 hT.1, al_T1 hT.1, al_T2 hT.1, al_T3 hT.1, al_T4 hT.1, rd_T1 hT.1, rd_T2 hT.1, rd_T3 hT.1, rd_T4 hT.1, vT_0 hT, vT_1 hT, vT_2 hT, vT_3 hT, vT_4 hT, Jl0, Jl1, Jl2, Jl3, Jl4, Jl5, Jl6, Jl7, Jl8, Jl9, Jl10, Jl11, Jl12, Jl13, Jl14, Jl15, Jl16, Jl17, Jl18, Jl19, Jl20, Jl22, Jl24, Jl28, Jl30, Jl31, Jl32, Jl35, Jl36, Jl37, Jl38, Jl39, Jl40, Jl48, Jl57, Jl59, Jl60, Jl61, Jl63, Jl64, Jl68, Jl69, Jl96, Jl97, Jl98, Jl99, Jl100, Jl122, Jl149, Jl150, Jl165, Jl255, Jl511, Jl512, Jl600, Jl610, Jl940, Jl968, Jl999, Jl1134, Jl1152, Jl2048, Jl4608, Jl9999, Jl99999, Jl100000, Jl147456, Jl12345, Jl1103515245, Jl100000000, Jlm1, Jlm2, J_add, J_sub, J_mul, J_lt, J_le, J_eq, J_ite, J_cl, ri_j, wi_j, b2i_z, b2i_o, b2i_zo, Int.cast_ofNat_Int, Int.natCast_zero, Int.natCast_one, if_true, if_false, ite_self, Int.le_refl, J_bit, J_or, J_neg, J_oN, Int.reduceEq, Int.reduceLT, Int.reduceLE, Int.reduceNeg, Int.reduceAdd, Int.reduceSub, Int.reduceMul, Int.reduceToNat, J_shl, J_shr, V_ite, true_or, or_true, nz_j, J_div, J_rem, Option.bind_some, Option.toList_some, Option.toList_none, List.cons_append, List.nil_append, Jl21, Jl23, Jl25, Jl74, Jl83, Jl288, Jl324, Jl1800, Jlm8]
        rw [if_neg (fun z => ct z.symm)]) (by omega) (none, none)
    dsimp only at LL
    rw [sgS_0, z0] at LL
    simp (disch := omega) only [b41_0, b41_22, b41_37, e41, gO_P hP, gR_P4 hP, gR_P6 hP, gR_P7 hP, gR_P8 hP, gR_P9 hP, gR_P10 hP, al_P14 hP, al_P15 hP, al_P16 hP, al_P17 hP, al_P18 hP, al_P19 hP, rd_P14 hP, rd_P15 hP, rd_P16 hP, rd_P17 hP, rd_P18 hP, rd_P19 hP, gR_k p0, gO_N hN, gR_N3 hN, gR_N4 hN, gR_N5 hN, gR_N6 hN, al_N14 hN, al_N15 hN, al_N16 hN, al_N17 hN, rd_N14 hN, rd_N15 hN, rd_N16 hN, rd_N17 hN, gP_N hN hl, wr_N14 hN hl, wr_N15 hN hl, wr_N16 hN hl, wr_N17 hN hl, gR_k h0, gR_k h1, gR_k h2, gO_S hS.1, gR_S2 hS.1, gR_S4 hS.1, gR_S5 hS.1, gR_S6 hS.1, gR_S7 hS.1, gR_S8 hS.1, gR_S9 hS.1, gR_S10 hS.1, gR_S11 hS.1, gR_S12 hS.1, gR_S14 hS.1, gR_S15 hS.1, al_S1 hS.1, al_S2 hS.1, al_S3 hS.1, al_S4 hS.1, al_S5 hS.1, al_S6 hS.1, al_S7 hS.1, al_S8 hS.1, al_S9 hS.1, al_S10 hS.1, al_S11 hS.1, al_S12 hS.1, rd_S1 hS.1, rd_S2 hS.1, rd_S3 hS.1, rd_S4 hS.1, rd_S5 hS.1, rd_S6 hS.1, rd_S7 hS.1, rd_S8 hS.1, rd_S9 hS.1, rd_S10 hS.1, rd_S11 hS.1, rd_S12 hS.1, vS_0 hS, vS_1 hS, vS_2 hS, vS_3 hS, vS_4 hS, vS_5 hS, vS_6 hS, vS_7 hS, vS_8 hS, vS_9 hS, vS_10 hS, vS_11 hS, vS_12 hS, gO_L hL.1, gR_L5 hL.1, al_L1 hL.1, rd_L1 hL.1, vL_0 hL, vL_1 hL, gO_T hT.1, gR_T3 hT.1, gR_T4 hT.1, gR_T5 hT.1, gR_T6 hT.1, al_T1 hT.1, al_T2 hT.1, al_T3 hT.1, al_T4 hT.1, rd_T1 hT.1, rd_T2 hT.1, rd_T3 hT.1, rd_T4 hT.1, vT_0 hT, vT_1 hT, vT_2 hT, vT_3 hT, vT_4 hT, hc, hup, Jl0, Jl1, Jl2, Jl3, Jl4, Jl5, Jl6, Jl7, Jl8, Jl9, Jl10, Jl11, Jl12, Jl13, Jl14, Jl15, Jl16, Jl17, Jl18, Jl19, Jl20, Jl22, Jl24, Jl28, Jl30, Jl31, Jl32, Jl35, Jl36, Jl37, Jl38, Jl39, Jl40, Jl48, Jl57, Jl59, Jl60, Jl61, Jl63, Jl64, Jl68, Jl69, Jl96, Jl97, Jl98, Jl99, Jl100, Jl122, Jl149, Jl150, Jl165, Jl255, Jl511, Jl512, Jl600, Jl610, Jl940, Jl968, Jl999, Jl1134, Jl1152, Jl2048, Jl4608, Jl9999, Jl99999, Jl100000, Jl147456, Jl12345, Jl1103515245, Jl100000000, Jlm1, Jlm2, J_add, J_sub, J_mul, J_lt, J_le, J_eq, J_ite, J_cl, ri_j, wi_j, b2i_z, b2i_o, b2i_zo, Int.cast_ofNat_Int, Int.natCast_zero, Int.natCast_one, if_true, if_false, ite_self, Int.le_refl, J_bit, J_or, J_neg, J_oN, Int.reduceEq, Int.reduceLT, Int.reduceLE, Int.reduceNeg, Int.reduceAdd, Int.reduceSub, Int.reduceMul, Int.reduceToNat, J_shl, J_shr, V_ite, true_or, or_true, nz_j, J_div, J_rem, Option.bind_some, Option.toList_some, Option.toList_none, List.cons_append, List.nil_append, Jl21, Jl23, Jl25, Jl74, Jl83, Jl288, Jl324, Jl1800, Jlm8]
    refine LL.trans ?_
    rw [b41_46, z1]
    have sb2 := sm_b (ctT S L T rd k) (n := upS S k) (A := 0) (B := 40000) (by omega) (fun i q1 q2 => cb i q1 (by omega))
    simp (disch := omega) only [b41_218, gO_P hP, gR_P4 hP, gR_P6 hP, gR_P7 hP, gR_P8 hP, gR_P9 hP, gR_P10 hP, al_P14 hP, al_P15 hP, al_P16 hP, al_P17 hP, al_P18 hP, al_P19 hP, rd_P14 hP, rd_P15 hP, rd_P16 hP, rd_P17 hP, rd_P18 hP, rd_P19 hP, gR_k p0, gO_N hN, gR_N3 hN, gR_N4 hN, gR_N5 hN, gR_N6 hN, al_N14 hN, al_N15 hN, al_N16 hN, al_N17 hN, rd_N14 hN, rd_N15 hN, rd_N16 hN, rd_N17 hN, gP_N hN hl, wr_N14 hN hl, wr_N15 hN hl, wr_N16 hN hl, wr_N17 hN hl, gR_k h0, gR_k h1, gR_k h2, gO_S hS.1, gR_S2 hS.1, gR_S4 hS.1, gR_S5 hS.1, gR_S6 hS.1, gR_S7 hS.1, gR_S8 hS.1, gR_S9 hS.1, gR_S10 hS.1, gR_S11 hS.1, gR_S12 hS.1, gR_S14 hS.1, gR_S15 hS.1, al_S1 hS.1, al_S2 hS.1, al_S3 hS.1, al_S4 hS.1, al_S5 hS.1, al_S6 hS.1, al_S7 hS.1, al_S8 hS.1, al_S9 hS.1, al_S10 hS.1, al_S11 hS.1, al_S12 hS.1, rd_S1 hS.1, rd_S2 hS.1, rd_S3 hS.1, rd_S4 hS.1, rd_S5 hS.1, rd_S6 hS.1, rd_S7 hS.1, rd_S8 hS.1, rd_S9 hS.1, rd_S10 hS.1, rd_S11 hS.1, rd_S12 hS.1, vS_0 hS, vS_1 hS, vS_2 hS, vS_3 hS, vS_4 hS, vS_5 hS, vS_6 hS, vS_7 hS, vS_8 hS, vS_9 hS, vS_10 hS, vS_11 hS, vS_12 hS, gO_L hL.1, gR_L5 hL.1, al_L1 hL.1, rd_L1 hL.1, vL_0 hL, vL_1 hL, gO_T hT.1, gR_T3 hT.1, gR_T4 hT.1, gR_T5 hT.1, gR_T6 hT.1, al_T1 hT.1, al_T2 hT.1, al_T3 hT.1, al_T4 hT.1, rd_T1 hT.1, rd_T2 hT.1, rd_T3 hT.1, rd_T4 hT.1, vT_0 hT, vT_1 hT, vT_2 hT, vT_3 hT, vT_4 hT, Jl0, Jl1, Jl2, Jl3, Jl4, Jl5, Jl6, Jl7, Jl8, Jl9, Jl10, Jl11, Jl12, Jl13, Jl14, Jl15, Jl16, Jl17, Jl18, Jl19, Jl20, Jl22, Jl24, Jl28, Jl30, Jl31, Jl32, Jl35, Jl36, Jl37, Jl38, Jl39, Jl40, Jl48, Jl57, Jl59, Jl60, Jl61, Jl63, Jl64, Jl68, Jl69, Jl96, Jl97, Jl98, Jl99, Jl100, Jl122, Jl149, Jl150, Jl165, Jl255, Jl511, Jl512, Jl600, Jl610, Jl940, Jl968, Jl999, Jl1134, Jl1152, Jl2048, Jl4608, Jl9999, Jl99999, Jl100000, Jl147456, Jl12345, Jl1103515245, Jl100000000, Jlm1, Jlm2, J_add, J_sub, J_mul, J_lt, J_le, J_eq, J_ite, J_cl, ri_j, wi_j, b2i_z, b2i_o, b2i_zo, Int.cast_ofNat_Int, Int.natCast_zero, Int.natCast_one, if_true, if_false, ite_self, Int.le_refl, J_bit, J_or, J_neg, J_oN, Int.reduceEq, Int.reduceLT, Int.reduceLE, Int.reduceNeg, Int.reduceAdd, Int.reduceSub, Int.reduceMul, Int.reduceToNat, J_shl, J_shr, V_ite, true_or, or_true, nz_j, J_div, J_rem, Option.bind_some, Option.toList_some, Option.toList_none, List.cons_append, List.nil_append, Jl21, Jl23, Jl25, Jl74, Jl83, Jl288, Jl324, Jl1800, Jlm8]
    refine V_ok _ ?_
    split <;> split <;> omega
end CLASS
