/-! THE CLASS: trips -/
theorem tpM_s {D : Int → Int → Int} {A : Int → Int} {s b v n : Int} (h : 0 ≤ n) : tpM D A s b v (n + 1) = if A (s * 8 + n) < 100000000 then mnI (tpM D A s b v n) (A (s * 8 + n) + D n b) else tpM D A s b v n := fo_s _ _ h
theorem tpM_b {D : Int → Int → Int} {A : Int → Int} {s b v n : Int} (hn : 0 ≤ n) (hA : ∀ i, 0 ≤ A i ∧ A i ≤ 100000000) (hD : ∀ h, 0 ≤ h → h < n → 0 ≤ D h b) (hv : 0 ≤ v ∧ v ≤ 100000000) : 0 ≤ tpM D A s b v n ∧ tpM D A s b v n ≤ 100000000 := by
  refine fo_ind (fun i (x : Int) => 0 ≤ x ∧ x ≤ 100000000) _ _ hn hv (fun i x h1 h2 h3 => ?_)
  have a := hA (s * 8 + i)
  have b := hD i h1 h2
  unfold mnI
  split
  · split <;> omega
  · exact h3
theorem tpT_d {S : Nat → Int → Int} {s i : Int} : tpT S s i = true ↔ (0 ≤ i % 8 ∧ i % 8 < S 0 0 ∧ tb s (i % 8) = false ∧ i / 8 = so s (p2 (i % 8))) := by
  unfold tpT
  rw [decide_eq_true_eq]
theorem tpA_b {S : Nat → Int → Int} {D : Int → Int → Int} {fr n : Int} (hS : 0 ≤ S 0 0) (hn : 0 ≤ n) (hD : ∀ h b, 0 ≤ h → h < S 0 0 → 0 ≤ b → b < S 0 0 → 0 ≤ D h b) : ∀ j, 0 ≤ tpA S D fr n j ∧ tpA S D fr n j ≤ 100000000 := by
  refine fo_ind (fun _ (A : Int → Int) => ∀ j, 0 ≤ A j ∧ A j ≤ 100000000) _ _ hn (fun j => ?_) (fun i A h1 h2 h3 j => ?_)
  · unfold tp0
    split <;> omega
  · unfold tpS
    split
    · rename_i h
      have := tpT_d.mp h
      exact tpM_b hS h3 (fun h q1 q2 => hD h _ q1 q2 (by omega) (by omega)) (h3 j)
    · exact h3 j
theorem tpT_self {S : Nat → Int → Int} {s h : Int} (hs : 0 ≤ s) (hh : 0 ≤ h ∧ h < 8) : tpT S s (s * 8 + h) = false := by
  apply Bool.eq_false_iff.mpr
  intro q
  obtain ⟨_, _, q3, q4⟩ := tpT_d.mp q
  rw [show (s * 8 + h) % 8 = h by omega] at q3 q4
  rw [show (s * 8 + h) / 8 = s by omega] at q4
  have pb := p2_0 h
  have : tb (so s (p2 h)) h = true := by rw [tb_so _ _ _ hs (by omega), tb_p2 hh.1 hh.1, decide_eq_true rfl, Bool.or_true]
  rw [← q4, q3] at this
  cases this
section CLASS
variable {E : (Nat → Value) × (Nat → Nat)} {lo d s l t n : Nat} {μ : rM} {I S L T R : Nat → Int → Int} {x y z w k u h a b : Int} {bb : Bool}
theorem gof_sp {g : Int → Int} {D : Int → Int → Int} (hd : 1 ≤ d) (hW : ShW μ n) (hl : lo ≤ n) (hV : SV S) (hw : 0 ≤ w ∧ w < p2 (S 0 0)) (hh : 0 ≤ h ∧ h < S 0 0) (hD : ∀ k, 0 ≤ k → k < S 0 0 → I (n + 22) (h * 8 + k) = D h k ∧ 0 ≤ D h k ∧ D h k ≤ 100000000) (hg : ∀ i, 0 ≤ i → i < 2048 → 0 ≤ g i ∧ g i ≤ 100000000) : ∃ g', cl E lo d 108 [.ref n, .int (J (w)), .int (J (h)), .int (J ((S 0 0)))] (mj μ (sA I (n + 23) g)) = some (none, mj μ (sA I (n + 23) g')) ∧ ∀ i, 0 ≤ i → i < 2048 → g' i = if tpT S w i = true then mnI (g i) (g (w * 8 + h) + D h (i % 8)) else g i := by
  obtain ⟨d, rfl⟩ : ∃ e, d = e + 1 := ⟨d - 1, by omega⟩
  have v := hV.1
  have pp := p2_256 hV
  have gs := hg (w * 8 + h) (by omega) (by omega)
  obtain ⟨⟨g1, q⟩, e1, a1⟩ := loop (fun k (t : (Int → Int) × Option Value) => ex PG E lo d 108 16 [some (.ref n), some (.int (J (w))), some (.int (J (h))), some (.int (J ((S 0 0)))), some (.int (J ((g (w * 8 + h))))), some (.int (J (k))), t.2] [] (mj μ (sA I (n + 23) t.1))) (fun k t => ∀ i, 0 ≤ i → i < 2048 → t.1 i = if tpT S w i = true ∧ i % 8 < k then mnI (g i) (g (w * 8 + h) + D h (i % 8)) else g i) (a := 0) (n := S 0 0) (fun k t f1 f2 hP => by
    obtain ⟨g1, q⟩ := t
    dsimp only at hP ⊢
    cases ht : tb w k with
    | true =>
      refine ⟨(g1, q), ?_, fun i q1 q2 => ?_⟩
      · rw [b108_16]
        simp (disch := omega) only [b108_22, b108_77, ht, Bool.true_eq_false, Jl0, Jl1, Jl2, Jl3, Jl4, Jl5, Jl6, Jl7, Jl8, Jl9, Jl10, Jl11, Jl12, Jl13, Jl14, Jl15, Jl16, Jl17, Jl18, Jl19, Jl20, Jl22, Jl24, Jl28, Jl30, Jl31, Jl32, Jl35, Jl36, Jl37, Jl38, Jl39, Jl40, Jl48, Jl57, Jl59, Jl60, Jl61, Jl63, Jl64, Jl68, Jl69, Jl96, Jl97, Jl98, Jl99, Jl100, Jl122, Jl149, Jl150, Jl165, Jl255, Jl511, Jl512, Jl600, Jl610, Jl940, Jl968, Jl999, Jl1134, Jl1152, Jl2048, Jl4608, Jl9999, Jl99999, Jl100000, Jl147456, Jl12345, Jl1103515245, Jl100000000, Jlm1, Jlm2, J_add, J_sub, J_mul, J_lt, J_le, J_eq, J_ite, J_cl, ri_j, wi_j, b2i_z, b2i_o, b2i_zo, Int.cast_ofNat_Int, Int.natCast_zero, Int.natCast_one, if_true, if_false, ite_self, Int.le_refl, J_bit, J_or, J_neg, J_oN, Int.reduceEq, Int.reduceLT, Int.reduceLE, Int.reduceNeg, Int.reduceAdd, Int.reduceSub, Int.reduceMul, Int.reduceToNat, J_shl, J_shr, V_ite, true_or, or_true, nz_j, J_div, J_rem, Option.bind_some, Option.toList_some, Option.toList_none, List.cons_append, List.nil_append, Jl21, Jl23, Jl25, Jl74, Jl83, Jl288, Jl324, Jl1800, Jlm8]
        repeat (first | rw [if_neg (by omega)] | rw [if_pos (by omega)])
      · dsimp only
        rw [hP i q1 q2]
        by_cases c : tpT S w i = true ∧ i % 8 < k
        · rw [if_pos c, if_pos ⟨c.1, by omega⟩]
        · rw [if_neg c, if_neg]
          intro z
          obtain ⟨z1, z2, z3, z4⟩ := tpT_d.mp z.1
          have : i % 8 = k := by
            have h1 : ¬ i % 8 < k := fun q => c ⟨z.1, q⟩
            have h2 := z.2
            omega
          rw [this, ht] at z3
          cases z3
    | false =>
      have pb := p2_0 k
      have pbl := p2_le (k := k + 1) (m := S 0 0) (by omega)
      rw [p2_s (by omega)] at pbl
      have sob := so_p2 (s := w) (t := p2 k) (k := S 0 0) hw (by omega)
      obtain ⟨to, eto⟩ : ∃ to, to = so w (p2 k) * 8 + k := ⟨_, rfl⟩
      have t8 : to % 8 = k := by omega
      have td : to / 8 = so w (p2 k) := by omega
      have tto : tpT S w to = true := tpT_d.mpr ⟨by omega, by omega, by rw [t8]; exact ht, by rw [t8]; exact td⟩
      have gt : g1 to = g to := by rw [hP to (by omega) (by omega), if_neg (by omega)]
      have bt := hg to (by omega) (by omega)
      obtain ⟨d1, d2⟩ := hD k f1 f2
      refine ⟨(u1 g1 to (mnI (g to) (g (w * 8 + h) + D h k)), some (.int (J to))), ?_, fun i q1 q2 => ?_⟩
      · rw [b108_16]
        have em : (if g (w * 8 + h) + D h k < g to then g (w * 8 + h) + D h k else g to) = mnI (g to) (g (w * 8 + h) + D h k) := by
          unfold mnI
          split <;> split <;> omega
        have d1' : sA I (n + 23) g1 (n + 22) (h * 8 + k) = D h k := by rw [sA_n (by omega)]; exact d1
        simp (disch := omega) only [b108_22, b108_31, b108_77, ht, gO_W hW, gR_W2 hW, gR_W4 hW, gR_W5 hW, gR_W6 hW, gR_W7 hW, gR_W10 hW, gR_W11 hW, gR_W12 hW, al_W1 hW, al_W15 hW, al_W16 hW, al_W17 hW, al_W18 hW, al_W21 hW, al_W22 hW, al_W23 hW, rd_W1 hW, rd_W15 hW, rd_W16 hW, rd_W17 hW, rd_W18 hW, rd_W21 hW, rd_W22 hW, rd_W23 hW, gP_W hW hl, wr_W1 hW hl, wr_W15 hW hl, wr_W16 hW hl, wr_W17 hW hl, wr_W18 hW hl, wr_W21 hW hl, wr_W22 hW hl, wr_W23 hW hl, eto.symm, u3_sA, sA_s, sA_sA, gt, d1', em, Jl0, Jl1, Jl2, Jl3, Jl4, Jl5, Jl6, Jl7, Jl8, Jl9, Jl10, Jl11, Jl12, Jl13, Jl14, Jl15, Jl16, Jl17, Jl18, Jl19, Jl20, Jl22, Jl24, Jl28, Jl30, Jl31, Jl32, Jl35, Jl36, Jl37, Jl38, Jl39, Jl40, Jl48, Jl57, Jl59, Jl60, Jl61, Jl63, Jl64, Jl68, Jl69, Jl96, Jl97, Jl98, Jl99, Jl100, Jl122, Jl149, Jl150, Jl165, Jl255, Jl511, Jl512, Jl600, Jl610, Jl940, Jl968, Jl999, Jl1134, Jl1152, Jl2048, Jl4608, Jl9999, Jl99999, Jl100000, Jl147456, Jl12345, Jl1103515245, Jl100000000, Jlm1, Jlm2, J_add, J_sub, J_mul, J_lt, J_le, J_eq, J_ite, J_cl, ri_j, wi_j, b2i_z, b2i_o, b2i_zo, Int.cast_ofNat_Int, Int.natCast_zero, Int.natCast_one, if_true, if_false, ite_self, Int.le_refl, J_bit, J_or, J_neg, J_oN, Int.reduceEq, Int.reduceLT, Int.reduceLE, Int.reduceNeg, Int.reduceAdd, Int.reduceSub, Int.reduceMul, Int.reduceToNat, J_shl, J_shr, V_ite, true_or, or_true, nz_j, J_div, J_rem, Option.bind_some, Option.toList_some, Option.toList_none, List.cons_append, List.nil_append, Jl21, Jl23, Jl25, Jl74, Jl83, Jl288, Jl324, Jl1800, Jlm8]
        repeat (first | rw [if_neg (by omega)] | rw [if_pos (by omega)])
      · dsimp only
        by_cases ci : i = to
        · rw [ci, u1_s, if_pos ⟨tto, by omega⟩, t8]
        · rw [u1_n ci, hP i q1 q2]
          by_cases c : tpT S w i = true ∧ i % 8 < k
          · rw [if_pos c, if_pos ⟨c.1, by omega⟩]
          · rw [if_neg c, if_neg]
            intro z
            obtain ⟨z1, z2, z3, z4⟩ := tpT_d.mp z.1
            have e : i % 8 = k := by
              have h1 : ¬ i % 8 < k := fun q => c ⟨z.1, q⟩
              have h2 := z.2
              omega
            rw [e] at z4
            omega) (by omega) (g, none) (fun i q1 q2 => by dsimp only; rw [if_neg (by omega)])
  dsimp only at e1 a1
  refine ⟨g1, ?_, fun i q1 q2 => ?_⟩
  · simp (disch := omega) only [b108_0, e108, gO_W hW, gR_W2 hW, gR_W4 hW, gR_W5 hW, gR_W6 hW, gR_W7 hW, gR_W10 hW, gR_W11 hW, gR_W12 hW, al_W1 hW, al_W15 hW, al_W16 hW, al_W17 hW, al_W18 hW, al_W21 hW, al_W22 hW, al_W23 hW, rd_W1 hW, rd_W15 hW, rd_W16 hW, rd_W17 hW, rd_W18 hW, rd_W21 hW, rd_W22 hW, rd_W23 hW, sA_s, Jl0, Jl1, Jl2, Jl3, Jl4, Jl5, Jl6, Jl7, Jl8, Jl9, Jl10, Jl11, Jl12, Jl13, Jl14, Jl15, Jl16, Jl17, Jl18, Jl19, Jl20, Jl22, Jl24, Jl28, Jl30, Jl31, Jl32, Jl35, Jl36, Jl37, Jl38, Jl39, Jl40, Jl48, Jl57, Jl59, Jl60, Jl61, Jl63, Jl64, Jl68, Jl69, Jl96, Jl97, Jl98, Jl99, Jl100, Jl122, Jl149, Jl150, Jl165, Jl255, Jl511, Jl512, Jl600, Jl610, Jl940, Jl968, Jl999, Jl1134, Jl1152, Jl2048, Jl4608, Jl9999, Jl99999, Jl100000, Jl147456, Jl12345, Jl1103515245, Jl100000000, Jlm1, Jlm2, J_add, J_sub, J_mul, J_lt, J_le, J_eq, J_ite, J_cl, ri_j, wi_j, b2i_z, b2i_o, b2i_zo, Int.cast_ofNat_Int, Int.natCast_zero, Int.natCast_one, if_true, if_false, ite_self, Int.le_refl, J_bit, J_or, J_neg, J_oN, Int.reduceEq, Int.reduceLT, Int.reduceLE, Int.reduceNeg, Int.reduceAdd, Int.reduceSub, Int.reduceMul, Int.reduceToNat, J_shl, J_shr, V_ite, true_or, or_true, nz_j, J_div, J_rem, Option.bind_some, Option.toList_some, Option.toList_none, List.cons_append, List.nil_append, Jl21, Jl23, Jl25, Jl74, Jl83, Jl288, Jl324, Jl1800, Jlm8]
    refine e1.trans ?_
    rw [b108_16]
    simp (disch := omega) only [b108_83, Jl0, Jl1, Jl2, Jl3, Jl4, Jl5, Jl6, Jl7, Jl8, Jl9, Jl10, Jl11, Jl12, Jl13, Jl14, Jl15, Jl16, Jl17, Jl18, Jl19, Jl20, Jl22, Jl24, Jl28, Jl30, Jl31, Jl32, Jl35, Jl36, Jl37, Jl38, Jl39, Jl40, Jl48, Jl57, Jl59, Jl60, Jl61, Jl63, Jl64, Jl68, Jl69, Jl96, Jl97, Jl98, Jl99, Jl100, Jl122, Jl149, Jl150, Jl165, Jl255, Jl511, Jl512, Jl600, Jl610, Jl940, Jl968, Jl999, Jl1134, Jl1152, Jl2048, Jl4608, Jl9999, Jl99999, Jl100000, Jl147456, Jl12345, Jl1103515245, Jl100000000, Jlm1, Jlm2, J_add, J_sub, J_mul, J_lt, J_le, J_eq, J_ite, J_cl, ri_j, wi_j, b2i_z, b2i_o, b2i_zo, Int.cast_ofNat_Int, Int.natCast_zero, Int.natCast_one, if_true, if_false, ite_self, Int.le_refl, J_bit, J_or, J_neg, J_oN, Int.reduceEq, Int.reduceLT, Int.reduceLE, Int.reduceNeg, Int.reduceAdd, Int.reduceSub, Int.reduceMul, Int.reduceToNat, J_shl, J_shr, V_ite, true_or, or_true, nz_j, J_div, J_rem, Option.bind_some, Option.toList_some, Option.toList_none, List.cons_append, List.nil_append, Jl21, Jl23, Jl25, Jl74, Jl83, Jl288, Jl324, Jl1800, Jlm8]
  · rw [a1 i q1 q2]
    by_cases c : tpT S w i = true
    · rw [if_pos ⟨c, (tpT_d.mp c).2.1⟩, if_pos c]
    · rw [if_neg (fun z => c z.1), if_neg c]
theorem fta_sp (hd : 3 ≤ d) (hW : ShW μ n) (hl : lo ≤ n) (hS : AtS μ I s S) (hV : SV S) (ha : s + 13 ≤ n) (hy : 0 ≤ y ∧ y < S 0 0) : ∃ g1 g2, cl E lo d 107 [.ref n, .ref s, .int (J (y))] (mj μ I) = some (some (.int (J (tripQ S y))), mj μ (sA (sA I (n + 22) g1) (n + 23) g2)) := by
  obtain ⟨d, rfl⟩ : ∃ e, d = e + 1 := ⟨d - 1, by omega⟩
  have v := hV.1
  have pp := p2_256 hV
  obtain ⟨g1, e1, a1⟩ := rf_sp (E := E) (lo := lo) (d := d) (by omega) hW hl hS hV ha
  obtain ⟨I1, eI1⟩ : ∃ I1, I1 = sA I (n + 22) g1 := ⟨_, rfl⟩
  rw [← eI1] at e1
  obtain ⟨D, eD⟩ : ∃ D, D = fwQ S 100000000 (S 0 0) := ⟨_, rfl⟩
  have hDb : ∀ h k, 0 ≤ h → h < S 0 0 → 0 ≤ k → k < S 0 0 → 0 ≤ D h k ∧ D h k ≤ 100000000 := fun h k q1 q2 q3 q4 => by
    rw [eD]
    exact (fw_b hV (inf := 100000000) (by omega) (n := S 0 0) (h := h) (k := k) (by omega) (by omega) (by omega)).1
  have hI : ∀ h k, 0 ≤ h → h < S 0 0 → 0 ≤ k → k < S 0 0 → I1 (n + 22) (h * 8 + k) = D h k := fun h k q1 q2 q3 q4 => by
    rw [eI1, sA_s, eD]
    exact a1 h k q1 q2 q3 q4
  have hS1 : AtS μ I1 s S := hS.fr (fun a _ _ => by rw [eI1]; exact sA_n (by omega))
  have hSh := hS.1
  have s0 : I1 s 0 = S 0 0 := by rw [vS_0 hS1]
  have py := p2_0 y
  have pyl := p2_le (k := y + 1) (m := S 0 0) (by omega)
  rw [p2_s (by omega)] at pyl
  have hfill := fill_sp (E := E) (lo := lo) (d := d) (I := I1) (n := 2048) (v := 100000000) (by omega) (hW.2 (12, 23, 0, 2048) (by decide)).2 (by omega) (by omega)
  obtain ⟨g0, eg0⟩ : ∃ g0, g0 = u1 (flr (I1 (n + 23)) 0 ((2048 : Nat) : Int) 100000000) (p2 y * 8 + y) 0 := ⟨_, rfl⟩
  have hg0 : ∀ i, 0 ≤ i → i < 2048 → g0 i = tp0 y i := fun i q1 q2 => by
    rw [eg0]
    unfold tp0
    by_cases c : i = p2 y * 8 + y
    · rw [if_pos c, c, u1_s]
    · rw [if_neg c, u1_n c]
      unfold flr
      rw [if_pos (by omega)]
  have hAb : ∀ i, 0 ≤ i → ∀ j, 0 ≤ tpA S D y i j ∧ tpA S D y i j ≤ 100000000 := fun i hi => tpA_b (by omega) hi (fun h b q1 q2 q3 q4 => (hDb h b q1 q2 q3 q4).1)
  obtain ⟨⟨g3, q6⟩, e3, a3⟩ := loop (fun i (t : (Int → Int) × Option Value) => ex PG E lo d 107 43 [some (.ref n), some (.ref s), some (.int (J (y))), some (.int (J ((S 0 0)))), some (.int (J ((p2 (S 0 0) - 1)))), some (.int (J ((i + 1)))), t.2] [] (mj μ (sA I1 (n + 23) t.1))) (fun i t => ∀ j, 0 ≤ j → j < 2048 → t.1 j = tpA S D y i j) (a := 0) (n := p2 (S 0 0) - 2) (fun i t f1 f2 hP => by
    obtain ⟨g3, q6⟩ := t
    dsimp only at hP ⊢
    obtain ⟨A, eA⟩ : ∃ A, A = tpA S D y i := ⟨_, rfl⟩
    have hA := hAb i f1
    rw [← eA] at hP hA
    have mb : ∀ h j, 0 ≤ h → h ≤ S 0 0 → tpT S (i + 1) j = true → 0 ≤ tpM D A (i + 1) (j % 8) (A j) h ∧ tpM D A (i + 1) (j % 8) (A j) h ≤ 100000000 := fun h j q1 q2 q3 => by
      have := tpT_d.mp q3
      exact tpM_b q1 hA (fun h' z1 z2 => (hDb h' (j % 8) z1 (by omega) (by omega) (by omega)).1) (hA j)
    obtain ⟨g4, e4, a4⟩ := loop (fun h (g : Int → Int) => ex PG E lo d 107 53 [some (.ref n), some (.ref s), some (.int (J (y))), some (.int (J ((S 0 0)))), some (.int (J ((p2 (S 0 0) - 1)))), some (.int (J ((i + 1)))), some (.int (J (h)))] [] (mj μ (sA I1 (n + 23) g))) (fun h g => ∀ j, 0 ≤ j → j < 2048 → g j = if tpT S (i + 1) j = true then tpM D A (i + 1) (j % 8) (A j) h else A j) (a := 0) (n := S 0 0) (fun h g b1 b2 hP => by
      have gself : g ((i + 1) * 8 + h) = A ((i + 1) * 8 + h) := by
        rw [hP _ (by omega) (by omega), tpT_self (by omega) (by omega), if_neg (by decide)]
      have Ab := hA ((i + 1) * 8 + h)
      by_cases c : A ((i + 1) * 8 + h) < 100000000
      · obtain ⟨g5, e5, a5⟩ := gof_sp (E := E) (lo := lo) (d := d) (I := I1) (g := g) (D := D) (w := i + 1) (h := h) (by omega) hW hl hV (by omega) ⟨b1, b2⟩ (fun k q1 q2 => ⟨hI h k b1 b2 q1 q2, hDb h k b1 b2 q1 q2⟩) (fun j q1 q2 => by
          rw [hP j q1 q2]
          by_cases ct : tpT S (i + 1) j = true
          · rw [if_pos ct]; exact mb h j b1 (by omega) ct
          · rw [if_neg ct]; exact hA j)
        refine ⟨g5, ?_, fun j q1 q2 => ?_⟩
        · rw [b107_53]
          simp (disch := omega) only [b107_59, b107_77, b107_86, gO_W hW, gR_W2 hW, gR_W4 hW, gR_W5 hW, gR_W6 hW, gR_W7 hW, gR_W10 hW, gR_W11 hW, gR_W12 hW, al_W1 hW, al_W15 hW, al_W16 hW, al_W17 hW, al_W18 hW, al_W21 hW, al_W22 hW, al_W23 hW, rd_W1 hW, rd_W15 hW, rd_W16 hW, rd_W17 hW, rd_W18 hW, rd_W21 hW, rd_W22 hW, rd_W23 hW, sA_s, gself, e5, Jl0, Jl1, Jl2, Jl3, Jl4, Jl5, Jl6, Jl7, Jl8, Jl9, Jl10, Jl11, Jl12, Jl13, Jl14, Jl15, Jl16, Jl17, Jl18, Jl19, Jl20, Jl22, Jl24, Jl28, Jl30, Jl31, Jl32, Jl35, Jl36, Jl37, Jl38, Jl39, Jl40, Jl48, Jl57, Jl59, Jl60, Jl61, Jl63, Jl64, Jl68, Jl69, Jl96, Jl97, Jl98, Jl99, Jl100, Jl122, Jl149, Jl150, Jl165, Jl255, Jl511, Jl512, Jl600, Jl610, Jl940, Jl968, Jl999, Jl1134, Jl1152, Jl2048, Jl4608, Jl9999, Jl99999, Jl100000, Jl147456, Jl12345, Jl1103515245, Jl100000000, Jlm1, Jlm2, J_add, J_sub, J_mul, J_lt, J_le, J_eq, J_ite, J_cl, ri_j, wi_j, b2i_z, b2i_o, b2i_zo, Int.cast_ofNat_Int, Int.natCast_zero, Int.natCast_one, if_true, if_false, ite_self, Int.le_refl, J_bit, J_or, J_neg, J_oN, Int.reduceEq, Int.reduceLT, Int.reduceLE, Int.reduceNeg, Int.reduceAdd, Int.reduceSub, Int.reduceMul, Int.reduceToNat, J_shl, J_shr, V_ite, true_or, or_true, nz_j, J_div, J_rem, Option.bind_some, Option.toList_some, Option.toList_none, List.cons_append, List.nil_append, Jl21, Jl23, Jl25, Jl74, Jl83, Jl288, Jl324, Jl1800, Jlm8]
          repeat (first | rw [if_neg (by omega)] | rw [if_pos (by omega)])
        · rw [a5 j q1 q2, hP j q1 q2, gself]
          by_cases ct : tpT S (i + 1) j = true
          · rw [if_pos ct, if_pos ct, if_pos ct, tpM_s b1, if_pos c]
          · rw [if_neg ct, if_neg ct, if_neg ct]
      · refine ⟨g, ?_, fun j q1 q2 => ?_⟩
        · rw [b107_53]
          simp (disch := omega) only [b107_59, b107_86, gO_W hW, gR_W2 hW, gR_W4 hW, gR_W5 hW, gR_W6 hW, gR_W7 hW, gR_W10 hW, gR_W11 hW, gR_W12 hW, al_W1 hW, al_W15 hW, al_W16 hW, al_W17 hW, al_W18 hW, al_W21 hW, al_W22 hW, al_W23 hW, rd_W1 hW, rd_W15 hW, rd_W16 hW, rd_W17 hW, rd_W18 hW, rd_W21 hW, rd_W22 hW, rd_W23 hW, sA_s, gself, Jl0, Jl1, Jl2, Jl3, Jl4, Jl5, Jl6, Jl7, Jl8, Jl9, Jl10, Jl11, Jl12, Jl13, Jl14, Jl15, Jl16, Jl17, Jl18, Jl19, Jl20, Jl22, Jl24, Jl28, Jl30, Jl31, Jl32, Jl35, Jl36, Jl37, Jl38, Jl39, Jl40, Jl48, Jl57, Jl59, Jl60, Jl61, Jl63, Jl64, Jl68, Jl69, Jl96, Jl97, Jl98, Jl99, Jl100, Jl122, Jl149, Jl150, Jl165, Jl255, Jl511, Jl512, Jl600, Jl610, Jl940, Jl968, Jl999, Jl1134, Jl1152, Jl2048, Jl4608, Jl9999, Jl99999, Jl100000, Jl147456, Jl12345, Jl1103515245, Jl100000000, Jlm1, Jlm2, J_add, J_sub, J_mul, J_lt, J_le, J_eq, J_ite, J_cl, ri_j, wi_j, b2i_z, b2i_o, b2i_zo, Int.cast_ofNat_Int, Int.natCast_zero, Int.natCast_one, if_true, if_false, ite_self, Int.le_refl, J_bit, J_or, J_neg, J_oN, Int.reduceEq, Int.reduceLT, Int.reduceLE, Int.reduceNeg, Int.reduceAdd, Int.reduceSub, Int.reduceMul, Int.reduceToNat, J_shl, J_shr, V_ite, true_or, or_true, nz_j, J_div, J_rem, Option.bind_some, Option.toList_some, Option.toList_none, List.cons_append, List.nil_append, Jl21, Jl23, Jl25, Jl74, Jl83, Jl288, Jl324, Jl1800, Jlm8]
          repeat (first | rw [if_neg (by omega)] | rw [if_pos (by omega)])
        · rw [hP j q1 q2, tpM_s b1, if_neg c]) (by omega) g3 (fun j q1 q2 => by
        rw [hP j q1 q2]
        split <;> rfl)
    refine ⟨(g4, some (.int (J (S 0 0)))), ?_, fun j q1 q2 => ?_⟩
    · rw [b107_43]
      simp (disch := omega) only [b107_50, Jl0, Jl1, Jl2, Jl3, Jl4, Jl5, Jl6, Jl7, Jl8, Jl9, Jl10, Jl11, Jl12, Jl13, Jl14, Jl15, Jl16, Jl17, Jl18, Jl19, Jl20, Jl22, Jl24, Jl28, Jl30, Jl31, Jl32, Jl35, Jl36, Jl37, Jl38, Jl39, Jl40, Jl48, Jl57, Jl59, Jl60, Jl61, Jl63, Jl64, Jl68, Jl69, Jl96, Jl97, Jl98, Jl99, Jl100, Jl122, Jl149, Jl150, Jl165, Jl255, Jl511, Jl512, Jl600, Jl610, Jl940, Jl968, Jl999, Jl1134, Jl1152, Jl2048, Jl4608, Jl9999, Jl99999, Jl100000, Jl147456, Jl12345, Jl1103515245, Jl100000000, Jlm1, Jlm2, J_add, J_sub, J_mul, J_lt, J_le, J_eq, J_ite, J_cl, ri_j, wi_j, b2i_z, b2i_o, b2i_zo, Int.cast_ofNat_Int, Int.natCast_zero, Int.natCast_one, if_true, if_false, ite_self, Int.le_refl, J_bit, J_or, J_neg, J_oN, Int.reduceEq, Int.reduceLT, Int.reduceLE, Int.reduceNeg, Int.reduceAdd, Int.reduceSub, Int.reduceMul, Int.reduceToNat, J_shl, J_shr, V_ite, true_or, or_true, nz_j, J_div, J_rem, Option.bind_some, Option.toList_some, Option.toList_none, List.cons_append, List.nil_append, Jl21, Jl23, Jl25, Jl74, Jl83, Jl288, Jl324, Jl1800, Jlm8]
      rw [if_neg (by omega), e4, b107_53]
      simp (disch := omega) only [b107_92, Jl0, Jl1, Jl2, Jl3, Jl4, Jl5, Jl6, Jl7, Jl8, Jl9, Jl10, Jl11, Jl12, Jl13, Jl14, Jl15, Jl16, Jl17, Jl18, Jl19, Jl20, Jl22, Jl24, Jl28, Jl30, Jl31, Jl32, Jl35, Jl36, Jl37, Jl38, Jl39, Jl40, Jl48, Jl57, Jl59, Jl60, Jl61, Jl63, Jl64, Jl68, Jl69, Jl96, Jl97, Jl98, Jl99, Jl100, Jl122, Jl149, Jl150, Jl165, Jl255, Jl511, Jl512, Jl600, Jl610, Jl940, Jl968, Jl999, Jl1134, Jl1152, Jl2048, Jl4608, Jl9999, Jl99999, Jl100000, Jl147456, Jl12345, Jl1103515245, Jl100000000, Jlm1, Jlm2, J_add, J_sub, J_mul, J_lt, J_le, J_eq, J_ite, J_cl, ri_j, wi_j, b2i_z, b2i_o, b2i_zo, Int.cast_ofNat_Int, Int.natCast_zero, Int.natCast_one, if_true, if_false, ite_self, Int.le_refl, J_bit, J_or, J_neg, J_oN, Int.reduceEq, Int.reduceLT, Int.reduceLE, Int.reduceNeg, Int.reduceAdd, Int.reduceSub, Int.reduceMul, Int.reduceToNat, J_shl, J_shr, V_ite, true_or, or_true, nz_j, J_div, J_rem, Option.bind_some, Option.toList_some, Option.toList_none, List.cons_append, List.nil_append, Jl21, Jl23, Jl25, Jl74, Jl83, Jl288, Jl324, Jl1800, Jlm8]
    · dsimp only
      rw [a4 j q1 q2, tpA_s f1, ← eA]
      rfl) (by omega) (g0, none) (fun j q1 q2 => hg0 j q1 q2)
  dsimp only at e3 a3
  rw [show p2 (S 0 0) - 2 + 1 = p2 (S 0 0) - 1 by omega, show (0 : Int) + 1 = 1 by omega] at e3
  refine ⟨g1, g3, ?_⟩
  rw [← eI1]
  have hA := hAb (p2 (S 0 0) - 2) (by omega)
  unfold tripQ
  rw [← eD]
  obtain ⟨A, eA⟩ : ∃ A, A = tpA S D y (p2 (S 0 0) - 2) := ⟨_, rfl⟩
  rw [← eA] at a3 hA ⊢
  have lb : ∀ i, 0 ≤ i → 0 ≤ tpL A (p2 (S 0 0) - 1) i ∧ tpL A (p2 (S 0 0) - 1) i ≤ 100000000 := fun i hi => by
    refine fo_ind (fun _ (x : Int) => 0 ≤ x ∧ x ≤ 100000000) _ _ hi (by omega) (fun j x q1 q2 q3 => ?_)
    have := hA ((p2 (S 0 0) - 1) * 8 + j)
    unfold mnI
    split <;> omega
  have LL := tele (fun i => ex PG E lo d 107 105 [some (.ref n), some (.ref s), some (.int (J (y))), some (.int (J ((S 0 0)))), some (.int (J ((p2 (S 0 0) - 1)))), some (.int (J ((tpL A (p2 (S 0 0) - 1) i)))), some (.int (J (i)))] [] (mj μ (sA I1 (n + 23) g3))) (a := 0) (n := S 0 0) (fun i f1 f2 => by
    have es : tpL A (p2 (S 0 0) - 1) (i + 1) = mnI (tpL A (p2 (S 0 0) - 1) i) (A ((p2 (S 0 0) - 1) * 8 + i)) := fo_s _ _ f1
    have r := a3 ((p2 (S 0 0) - 1) * 8 + i) (by omega) (by omega)
    have b1 := lb i f1
    have b2 := hA ((p2 (S 0 0) - 1) * 8 + i)
    have em : mnI (tpL A (p2 (S 0 0) - 1) i) (A ((p2 (S 0 0) - 1) * 8 + i)) = if A ((p2 (S 0 0) - 1) * 8 + i) < tpL A (p2 (S 0 0) - 1) i then A ((p2 (S 0 0) - 1) * 8 + i) else tpL A (p2 (S 0 0) - 1) i := by
      unfold mnI
      split <;> split <;> omega
    rw [b107_105, es, em]
    simp (disch := omega) only [b107_111, gO_W hW, gR_W2 hW, gR_W4 hW, gR_W5 hW, gR_W6 hW, gR_W7 hW, gR_W10 hW, gR_W11 hW, gR_W12 hW, al_W1 hW, al_W15 hW, al_W16 hW, al_W17 hW, al_W18 hW, al_W21 hW, al_W22 hW, al_W23 hW, rd_W1 hW, rd_W15 hW, rd_W16 hW, rd_W17 hW, rd_W18 hW, rd_W21 hW, rd_W22 hW, rd_W23 hW, sA_s, r, Jl0, Jl1, Jl2, Jl3, Jl4, Jl5, Jl6, Jl7, Jl8, Jl9, Jl10, Jl11, Jl12, Jl13, Jl14, Jl15, Jl16, Jl17, Jl18, Jl19, Jl20, Jl22, Jl24, Jl28, Jl30, Jl31, Jl32, Jl35, Jl36, Jl37, Jl38, Jl39, Jl40, Jl48, Jl57, Jl59, Jl60, Jl61, Jl63, Jl64, Jl68, Jl69, Jl96, Jl97, Jl98, Jl99, Jl100, Jl122, Jl149, Jl150, Jl165, Jl255, Jl511, Jl512, Jl600, Jl610, Jl940, Jl968, Jl999, Jl1134, Jl1152, Jl2048, Jl4608, Jl9999, Jl99999, Jl100000, Jl147456, Jl12345, Jl1103515245, Jl100000000, Jlm1, Jlm2, J_add, J_sub, J_mul, J_lt, J_le, J_eq, J_ite, J_cl, ri_j, wi_j, b2i_z, b2i_o, b2i_zo, Int.cast_ofNat_Int, Int.natCast_zero, Int.natCast_one, if_true, if_false, ite_self, Int.le_refl, J_bit, J_or, J_neg, J_oN, Int.reduceEq, Int.reduceLT, Int.reduceLE, Int.reduceNeg, Int.reduceAdd, Int.reduceSub, Int.reduceMul, Int.reduceToNat, J_shl, J_shr, V_ite, true_or, or_true, nz_j, J_div, J_rem, Option.bind_some, Option.toList_some, Option.toList_none, List.cons_append, List.nil_append, Jl21, Jl23, Jl25, Jl74, Jl83, Jl288, Jl324, Jl1800, Jlm8]
    repeat (first | rw [if_neg (by omega)] | rw [if_pos (by omega)])) (by omega)
  rw [show tpL A (p2 (S 0 0) - 1) 0 = 100000000 from rfl] at LL
  have s1 : cl E lo (d + 1) 107 [.ref n, .ref s, .int (J y)] (mj μ I) = ex PG E lo d 107 43 [some (.ref n), some (.ref s), some (.int (J (y))), some (.int (J ((S 0 0)))), some (.int (J ((p2 (S 0 0) - 1)))), some (.int (J (1))), none] [] (mj μ (sA I1 (n + 23) g0)) := by
    rw [eg0]
    simp (disch := omega) only [b107_0, b107_5, b107_26, b107_40, e107, gO_W hW, gR_W2 hW, gR_W4 hW, gR_W5 hW, gR_W6 hW, gR_W7 hW, gR_W10 hW, gR_W11 hW, gR_W12 hW, al_W1 hW, al_W15 hW, al_W16 hW, al_W17 hW, al_W18 hW, al_W21 hW, al_W22 hW, al_W23 hW, rd_W1 hW, rd_W15 hW, rd_W16 hW, rd_W17 hW, rd_W18 hW, rd_W21 hW, rd_W22 hW, rd_W23 hW, gP_W hW hl, wr_W1 hW hl, wr_W15 hW hl, wr_W16 hW hl, wr_W17 hW hl, wr_W18 hW hl, wr_W21 hW hl, wr_W22 hW hl, wr_W23 hW hl, gO_S hSh, gR_S2 hSh, gR_S4 hSh, gR_S5 hSh, gR_S6 hSh, gR_S7 hSh, gR_S8 hSh, gR_S9 hSh, gR_S10 hSh, gR_S11 hSh, gR_S12 hSh, gR_S14 hSh, gR_S15 hSh, al_S1 hSh, al_S2 hSh, al_S3 hSh, al_S4 hSh, al_S5 hSh, al_S6 hSh, al_S7 hSh, al_S8 hSh, al_S9 hSh, al_S10 hSh, al_S11 hSh, al_S12 hSh, rd_S1 hSh, rd_S2 hSh, rd_S3 hSh, rd_S4 hSh, rd_S5 hSh, rd_S6 hSh, rd_S7 hSh, rd_S8 hSh, rd_S9 hSh, rd_S10 hSh, rd_S11 hSh, rd_S12 hSh, e1, s0, hfill, u3_sA, sA_s, sA_sA, Jl0, Jl1, Jl2, Jl3, Jl4, Jl5, Jl6, Jl7, Jl8, Jl9, Jl10, Jl11, Jl12, Jl13, Jl14, Jl15, Jl16, Jl17, Jl18, Jl19, Jl20, Jl22, Jl24, Jl28, Jl30, Jl31, Jl32, Jl35, Jl36, Jl37, Jl38, Jl39, Jl40, Jl48, Jl57, Jl59, Jl60, Jl61, Jl63, Jl64, Jl68, Jl69, Jl96, Jl97, Jl98, Jl99, Jl100, Jl122, Jl149, Jl150, Jl165, Jl255, Jl511, Jl512, Jl600, Jl610, Jl940, Jl968, Jl999, Jl1134, Jl1152, Jl2048, Jl4608, Jl9999, Jl99999, Jl100000, Jl147456, Jl12345, Jl1103515245, Jl100000000, Jlm1, Jlm2, J_add, J_sub, J_mul, J_lt, J_le, J_eq, J_ite, J_cl, ri_j, wi_j, b2i_z, b2i_o, b2i_zo, Int.cast_ofNat_Int, Int.natCast_zero, Int.natCast_one, if_true, if_false, ite_self, Int.le_refl, J_bit, J_or, J_neg, J_oN, Int.reduceEq, Int.reduceLT, Int.reduceLE, Int.reduceNeg, Int.reduceAdd, Int.reduceSub, Int.reduceMul, Int.reduceToNat, J_shl, J_shr, V_ite, true_or, or_true, nz_j, J_div, J_rem, Option.bind_some, Option.toList_some, Option.toList_none, List.cons_append, List.nil_append, Jl21, Jl23, Jl25, Jl74, Jl83, Jl288, Jl324, Jl1800, Jlm8]
  rw [s1, e3, b107_43]
  have lb2 := lb (S 0 0) (by omega)
  have fin : ex PG E lo d 107 105 [some (.ref n), some (.ref s), some (.int (J (y))), some (.int (J ((S 0 0)))), some (.int (J ((p2 (S 0 0) - 1)))), some (.int (J (100000000))), some (.int (J (0)))] [] (mj μ (sA I1 (n + 23) g3)) = some (some (.int (J (if tpL A (p2 (S 0 0) - 1) (S 0 0) < 100000000 then tpL A (p2 (S 0 0) - 1) (S 0 0) else -1))), mj μ (sA I1 (n + 23) g3)) := by
    refine LL.trans ?_
    rw [b107_105]
    by_cases c : tpL A (p2 (S 0 0) - 1) (S 0 0) < 100000000
    · rw [if_pos c]
      simp (disch := omega) only [b107_137, b107_144, b107_150, Jl0, Jl1, Jl2, Jl3, Jl4, Jl5, Jl6, Jl7, Jl8, Jl9, Jl10, Jl11, Jl12, Jl13, Jl14, Jl15, Jl16, Jl17, Jl18, Jl19, Jl20, Jl22, Jl24, Jl28, Jl30, Jl31, Jl32, Jl35, Jl36, Jl37, Jl38, Jl39, Jl40, Jl48, Jl57, Jl59, Jl60, Jl61, Jl63, Jl64, Jl68, Jl69, Jl96, Jl97, Jl98, Jl99, Jl100, Jl122, Jl149, Jl150, Jl165, Jl255, Jl511, Jl512, Jl600, Jl610, Jl940, Jl968, Jl999, Jl1134, Jl1152, Jl2048, Jl4608, Jl9999, Jl99999, Jl100000, Jl147456, Jl12345, Jl1103515245, Jl100000000, Jlm1, Jlm2, J_add, J_sub, J_mul, J_lt, J_le, J_eq, J_ite, J_cl, ri_j, wi_j, b2i_z, b2i_o, b2i_zo, Int.cast_ofNat_Int, Int.natCast_zero, Int.natCast_one, if_true, if_false, ite_self, Int.le_refl, J_bit, J_or, J_neg, J_oN, Int.reduceEq, Int.reduceLT, Int.reduceLE, Int.reduceNeg, Int.reduceAdd, Int.reduceSub, Int.reduceMul, Int.reduceToNat, J_shl, J_shr, V_ite, true_or, or_true, nz_j, J_div, J_rem, Option.bind_some, Option.toList_some, Option.toList_none, List.cons_append, List.nil_append, Jl21, Jl23, Jl25, Jl74, Jl83, Jl288, Jl324, Jl1800, Jlm8]
      repeat (first | rw [if_neg (by omega)] | rw [if_pos (by omega)])
    · rw [if_neg c]
      simp (disch := omega) only [b107_137, b107_149, b107_150, Jl0, Jl1, Jl2, Jl3, Jl4, Jl5, Jl6, Jl7, Jl8, Jl9, Jl10, Jl11, Jl12, Jl13, Jl14, Jl15, Jl16, Jl17, Jl18, Jl19, Jl20, Jl22, Jl24, Jl28, Jl30, Jl31, Jl32, Jl35, Jl36, Jl37, Jl38, Jl39, Jl40, Jl48, Jl57, Jl59, Jl60, Jl61, Jl63, Jl64, Jl68, Jl69, Jl96, Jl97, Jl98, Jl99, Jl100, Jl122, Jl149, Jl150, Jl165, Jl255, Jl511, Jl512, Jl600, Jl610, Jl940, Jl968, Jl999, Jl1134, Jl1152, Jl2048, Jl4608, Jl9999, Jl99999, Jl100000, Jl147456, Jl12345, Jl1103515245, Jl100000000, Jlm1, Jlm2, J_add, J_sub, J_mul, J_lt, J_le, J_eq, J_ite, J_cl, ri_j, wi_j, b2i_z, b2i_o, b2i_zo, Int.cast_ofNat_Int, Int.natCast_zero, Int.natCast_one, if_true, if_false, ite_self, Int.le_refl, J_bit, J_or, J_neg, J_oN, Int.reduceEq, Int.reduceLT, Int.reduceLE, Int.reduceNeg, Int.reduceAdd, Int.reduceSub, Int.reduceMul, Int.reduceToNat, J_shl, J_shr, V_ite, true_or, or_true, nz_j, J_div, J_rem, Option.bind_some, Option.toList_some, Option.toList_none, List.cons_append, List.nil_append, Jl21, Jl23, Jl25, Jl74, Jl83, Jl288, Jl324, Jl1800, Jlm8]
      repeat (first | rw [if_neg (by omega)] | rw [if_pos (by omega)])
  simp (disch := omega) only [b107_98, Jl0, Jl1, Jl2, Jl3, Jl4, Jl5, Jl6, Jl7, Jl8, Jl9, Jl10, Jl11, Jl12, Jl13, Jl14, Jl15, Jl16, Jl17, Jl18, Jl19, Jl20, Jl22, Jl24, Jl28, Jl30, Jl31, Jl32, Jl35, Jl36, Jl37, Jl38, Jl39, Jl40, Jl48, Jl57, Jl59, Jl60, Jl61, Jl63, Jl64, Jl68, Jl69, Jl96, Jl97, Jl98, Jl99, Jl100, Jl122, Jl149, Jl150, Jl165, Jl255, Jl511, Jl512, Jl600, Jl610, Jl940, Jl968, Jl999, Jl1134, Jl1152, Jl2048, Jl4608, Jl9999, Jl99999, Jl100000, Jl147456, Jl12345, Jl1103515245, Jl100000000, Jlm1, Jlm2, J_add, J_sub, J_mul, J_lt, J_le, J_eq, J_ite, J_cl, ri_j, wi_j, b2i_z, b2i_o, b2i_zo, Int.cast_ofNat_Int, Int.natCast_zero, Int.natCast_one, if_true, if_false, ite_self, Int.le_refl, J_bit, J_or, J_neg, J_oN, Int.reduceEq, Int.reduceLT, Int.reduceLE, Int.reduceNeg, Int.reduceAdd, Int.reduceSub, Int.reduceMul, Int.reduceToNat, J_shl, J_shr, V_ite, true_or, or_true, nz_j, J_div, J_rem, Option.bind_some, Option.toList_some, Option.toList_none, List.cons_append, List.nil_append, Jl21, Jl23, Jl25, Jl74, Jl83, Jl288, Jl324, Jl1800, Jlm8]
  repeat (first | rw [if_neg (by omega)] | rw [if_pos (by omega)])
  exact fin
theorem c_trip (hd : 5 ≤ d) (hC : CO μ lo) (hT : TOK I lo) (hx : i32 x ∧ i32 y) (eS : S = rws I (lo + 8 + 20 * x.toNat)) : CQ lo μ I (if (0 ≤ x ∧ x < I (lo + 1 + 2) 0) ∧ (0 ≤ y ∧ y < S 0 0) then tripQ S y else -1) (cl E lo d 156 [.ref lo, .int (J (x)), .int (J (y))] (mj μ I)) := by
  obtain ⟨d, rfl⟩ : ∃ e, d = e + 1 := ⟨d - 1, by omega⟩
  obtain ⟨hO, f0, f1, f2, f3, f4, f5, f6, f7, f8, hD⟩ := CO.o hC
  have hc := hT.1 0 (by omega) (by omega)
  have h1 := iho_sp (E := E) (lo := lo) (d := d) (I := I) (x := x) (k := y) (by omega) hC hc (hT.2.1 x) ⟨hx.1, hx.2⟩
  rw [← eS] at h1
  have hx' := hx
  unfold i32 at hx'
  by_cases c1 : (0 ≤ x ∧ x < I (lo + 1 + 2) 0) ∧ 0 ≤ y ∧ y < S 0 0
  · rw [decide_eq_true c1] at h1
    rw [if_pos c1]
    have hV := (hT.2.1 x c1.1.1 c1.1.2).1
    have g := hC.pS (x := x) (by omega)
    have hA := rws_S (I := I) (hC.Sx (x := x) (by omega))
    rw [← eS] at hV hA
    have hW := hC.W122
    obtain ⟨g1, g2, e2⟩ := fta_sp (E := E) (lo := lo) (d := d) (by omega) hW (by omega) hA hV (by omega) c1.2
    refine ⟨μ, _, ?_, FQ.i (I' := sA (sA I (lo + 122 + 22) g1) (lo + 122 + 23) g2) (fun a h => by rw [sA_n (by omega), sA_n (by omega)]) (by rw [sA_n (by omega), sA_n (by omega)]) (by rw [sA_n (by omega), sA_n (by omega)])⟩
    simp (disch := omega) only [b156_0, b156_6, b156_9, b156_26, b156_30, e156, gO_k hO, gR_k f0, gR_k f1, gR_k f2, gR_k f3, gR_k f4, gR_k f5, gR_k f6, gR_k f7, gR_k f8, gO_D hD, gR_D0 hD, gR_D4 hD, gR_D5 hD, gR_D6 hD, gR_D7 hD, gR_D8 hD, al_D1 hD, al_D2 hD, al_D3 hD, al_D4 hD, al_D5 hD, al_D6 hD, rd_D1 hD, rd_D2 hD, rd_D3 hD, rd_D4 hD, rd_D5 hD, rd_D6 hD, h1, b2i_t, gR_k g, gO_W hW, gR_W2 hW, gR_W4 hW, gR_W5 hW, gR_W6 hW, gR_W7 hW, gR_W10 hW, gR_W11 hW, gR_W12 hW, al_W1 hW, al_W15 hW, al_W16 hW, al_W17 hW, al_W18 hW, al_W21 hW, al_W22 hW, al_W23 hW, rd_W1 hW, rd_W15 hW, rd_W16 hW, rd_W17 hW, rd_W18 hW, rd_W21 hW, rd_W22 hW, rd_W23 hW, e2, Jl0, Jl1, Jl2, Jl3, Jl4, Jl5, Jl6, Jl7, Jl8, Jl9, Jl10, Jl11, Jl12, Jl13, Jl14, Jl15, Jl16, Jl17, Jl18, Jl19, Jl20, Jl22, Jl24, Jl28, Jl30, Jl31, Jl32, Jl35, Jl36, Jl37, Jl38, Jl39, Jl40, Jl48, Jl57, Jl59, Jl60, Jl61, Jl63, Jl64, Jl68, Jl69, Jl96, Jl97, Jl98, Jl99, Jl100, Jl122, Jl149, Jl150, Jl165, Jl255, Jl511, Jl512, Jl600, Jl610, Jl940, Jl968, Jl999, Jl1134, Jl1152, Jl2048, Jl4608, Jl9999, Jl99999, Jl100000, Jl147456, Jl12345, Jl1103515245, Jl100000000, Jlm1, Jlm2, J_add, J_sub, J_mul, J_lt, J_le, J_eq, J_ite, J_cl, ri_j, wi_j, b2i_z, b2i_o, b2i_zo, Int.cast_ofNat_Int, Int.natCast_zero, Int.natCast_one, if_true, if_false, ite_self, Int.le_refl, J_bit, J_or, J_neg, J_oN, Int.reduceEq, Int.reduceLT, Int.reduceLE, Int.reduceNeg, Int.reduceAdd, Int.reduceSub, Int.reduceMul, Int.reduceToNat, J_shl, J_shr, V_ite, true_or, or_true, nz_j, J_div, J_rem, Option.bind_some, Option.toList_some, Option.toList_none, List.cons_append, List.nil_append, Jl21, Jl23, Jl25, Jl74, Jl83, Jl288, Jl324, Jl1800, Jlm8]
  · rw [decide_eq_false c1] at h1
    rw [if_neg c1]
    refine ⟨μ, I, ?_, FQ.r⟩
    simp (disch := omega) only [b156_0, b156_6, b156_29, b156_30, e156, gO_k hO, gR_k f0, gR_k f1, gR_k f2, gR_k f3, gR_k f4, gR_k f5, gR_k f6, gR_k f7, gR_k f8, gO_D hD, gR_D0 hD, gR_D4 hD, gR_D5 hD, gR_D6 hD, gR_D7 hD, gR_D8 hD, al_D1 hD, al_D2 hD, al_D3 hD, al_D4 hD, al_D5 hD, al_D6 hD, rd_D1 hD, rd_D2 hD, rd_D3 hD, rd_D4 hD, rd_D5 hD, rd_D6 hD, h1, b2i_f, Jl0, Jl1, Jl2, Jl3, Jl4, Jl5, Jl6, Jl7, Jl8, Jl9, Jl10, Jl11, Jl12, Jl13, Jl14, Jl15, Jl16, Jl17, Jl18, Jl19, Jl20, Jl22, Jl24, Jl28, Jl30, Jl31, Jl32, Jl35, Jl36, Jl37, Jl38, Jl39, Jl40, Jl48, Jl57, Jl59, Jl60, Jl61, Jl63, Jl64, Jl68, Jl69, Jl96, Jl97, Jl98, Jl99, Jl100, Jl122, Jl149, Jl150, Jl165, Jl255, Jl511, Jl512, Jl600, Jl610, Jl940, Jl968, Jl999, Jl1134, Jl1152, Jl2048, Jl4608, Jl9999, Jl99999, Jl100000, Jl147456, Jl12345, Jl1103515245, Jl100000000, Jlm1, Jlm2, J_add, J_sub, J_mul, J_lt, J_le, J_eq, J_ite, J_cl, ri_j, wi_j, b2i_z, b2i_o, b2i_zo, Int.cast_ofNat_Int, Int.natCast_zero, Int.natCast_one, if_true, if_false, ite_self, Int.le_refl, J_bit, J_or, J_neg, J_oN, Int.reduceEq, Int.reduceLT, Int.reduceLE, Int.reduceNeg, Int.reduceAdd, Int.reduceSub, Int.reduceMul, Int.reduceToNat, J_shl, J_shr, V_ite, true_or, or_true, nz_j, J_div, J_rem, Option.bind_some, Option.toList_some, Option.toList_none, List.cons_append, List.nil_append, Jl21, Jl23, Jl25, Jl74, Jl83, Jl288, Jl324, Jl1800, Jlm8]
end CLASS
