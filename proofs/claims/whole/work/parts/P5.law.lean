/-! THE LAW: count, fault, feed, end -/
section TRL
variable {I I' : Nat → Int → Int} {t : Nat} {A A' : Int → Int}
/-- only tape, length, fault and place have changed -/
theorem TRl_h (h : TRl I t A) (hI : ∀ x, t + 2 ≤ x → x < t + 47 → I' x = I x) (hA : ∀ j, 0 ≤ j → j < 1152 → (j < 4 ∨ 610 ≤ j) → A' j = A j) (k1 : I' t 1 = A' 4 ∧ 0 ≤ A' 4 ∧ A' 4 ≤ 600) (k2 : I' t 2 = A' 5 ∧ I' t 3 = A' 6) (k3 : TpB I' (t + 1) (fun j => A' (10 + j))) : TRl I' t A' := by
  obtain ⟨h1, h2, h3, h4, h5, h6, h7, h8, h9⟩ := h
  obtain ⟨c1, c2, c3, c4, c5⟩ := CPT_fr (I := fun a j => if a = t ∨ a = t + 1 then I' a j else I a j) (I' := I') (t := t) (fun x z1 z2 => by
    funext j
    by_cases q : x = t ∨ x = t + 1
    · rw [if_pos q]
    · rw [if_neg q, hI x (by omega) z2])
  have w : ∀ k, 2 ≤ k → rws (fun a j => if a = t ∨ a = t + 1 then I' a j else I a j) (t + k) = rws I (t + k) := fun k hk => by
    funext f j
    show (if t + k + f = t ∨ t + k + f = t + 1 then I' (t + k + f) j else I (t + k + f) j) = I (t + k + f) j
    rw [if_neg (by omega)]
  rw [w 7 (by omega), w 20 (by omega), w 22 (by omega), w 25 (by omega)] at c4
  rw [w 27 (by omega), w 40 (by omega), w 42 (by omega), w 45 (by omega)] at c5
  obtain ⟨s0, l0, r0, q0⟩ := c4
  obtain ⟨s1, l1, r1, q1⟩ := c5
  have x2 : ∀ x : Int, 0 ≤ x → x < 2 → x = 0 ∨ x = 1 := fun x g1 g2 => by omega
  have n0 := h1 0 (by omega) (by omega)
  have n1 := h1 1 (by omega) (by omega)
  have n2 := h1 2 (by omega) (by omega)
  have n3 := h1 3 (by omega) (by omega)
  refine ⟨fun s g1 g2 => ?_, k1, k2, k3, fun x g1 g2 => ?_, fun x g1 g2 => ?_, fun x g1 g2 => ?_, fun x g1 g2 => ?_, ?_⟩
  · rw [hI _ (by omega) (by omega), hA s g1 (by omega) (by omega)]
    exact h1 s g1 g2
  · rw [hA _ (by omega) (by omega) (by omega)] at g2
    obtain ⟨u1, u2⟩ := h5 x g1 g2
    have ag : agS (rws I (t + 7 + 20 * x.toNat)) (rws I' (t + 7 + 20 * x.toNat)) := by
      rcases x2 x g1 (by omega) with rfl | rfl
      · exact s0
      · exact s1
    exact ⟨SV5_ag ag u1, RSt_A (SV5_ag ag u1) (fun j z1 z2 => hA j (by omega) (by omega) (by omega)) (RSt_ag ag u1 u2)⟩
  · rw [hA _ (by omega) (by omega) (by omega)] at g2
    obtain ⟨u1, u2⟩ := h6 x g1 g2
    have ag : agL (rws I (t + 20 + 20 * x.toNat)) (rws I' (t + 20 + 20 * x.toNat)) := by
      rcases x2 x g1 (by omega) with rfl | rfl
      · exact l0
      · exact l1
    exact ⟨LV_ag ag u1, RLt_A (fun j z1 z2 => hA j (by omega) (by omega) (by omega)) (RLt_ag ag u2)⟩
  · rw [hA _ (by omega) (by omega) (by omega)] at g2
    obtain ⟨u1, u2⟩ := h7 x g1 g2
    have ag : agR (rws I (t + 22 + 20 * x.toNat)) (rws I' (t + 22 + 20 * x.toNat)) := by
      rcases x2 x g1 (by omega) with rfl | rfl
      · exact r0
      · exact r1
    exact ⟨RV_ag ag u1, RQt_A (RV_ag ag u1) (fun j z1 z2 => hA j (by omega) (by omega) (by omega)) (RQt_ag ag u1 u2)⟩
  · rw [hA _ (by omega) (by omega) (by omega)] at g2
    obtain ⟨u1, u2⟩ := h8 x g1 g2
    have ag : agC (rws I (t + 25 + 20 * x.toNat)) (rws I' (t + 25 + 20 * x.toNat)) := by
      rcases x2 x g1 (by omega) with rfl | rfl
      · exact q0
      · exact q1
    exact ⟨CV_ag ag u1, RCt_A (CV_ag ag u1) (fun j z1 z2 => hA j (by omega) (by omega) (by omega)) (RCt_ag ag u1 u2)⟩
  · rw [hI _ (by omega) (by omega), hI _ (by omega) (by omega)]
    exact h9
end TRL
section LAW
variable {E : (Nat → Value) × (Nat → Nat)} {lo b L d : Nat} {μ : rM} {I : Nat → Int → Int} {i : Int}
theorem op_count (hd : 20 ≤ d) (h : INV E lo b L μ I) (hi : 0 ≤ i ∧ i + 7 ≤ (L : Int)) : STP E lo b L d i (ex PG E lo d 312 1758 [some (.ref b), some (.ref lo), some (.ref ((lo + 146))), some (.int (J (i)))] [] (mj μ I)) := by
  have hl2 := h.2.2.1.2.2.1
  have hkb := h.2.2.1.2.1
  have a1 := h.b32 (j := i + 1) (by omega)
  have hc := c_count (E := E) (lo := lo) (d := d) (I := I) (x := I b (i + 1)) (by omega) h.1 a1
  have ev : (if 0 ≤ I b (i + 1) ∧ I b (i + 1) < 4 then I (lo + 1 + 2) (I b (i + 1)) else -2) = if 0 ≤ I b (i + 1) ∧ I b (i + 1) < 4 then I (lo + 147) (I b (i + 1)) else -2 := by
    by_cases c : 0 ≤ I b (i + 1) ∧ I b (i + 1) < 4
    · rw [if_pos c, if_pos c]
      exact (h.cnt c).1
    · rw [if_neg c, if_neg c]
  rw [ev] at hc
  obtain ⟨μ1, I1, I2, e1, e2, h2, k1, k2, hC1⟩ := bothQ (r2 := fun μ' I' => cl E lo d 278 [.ref (lo + 146), .int (J (I b (i + 1)))] (mj μ' I')) h ⟨μ, I, hc, FQ.r⟩ (fun μ' I' f e hM => by
    have q := q_count (E := E) (lo := lo) (d := d) (I := I') (M := rws I' (lo + 146)) (x := I b (i + 1)) (by omega) hM a1
    rw [show sB I' (lo + 146) 26 (rws I' (lo + 146)) = I' from sB_id] at q
    have n0 : rws I' (lo + 146) 1 = I (lo + 147) := e
    simp only [n0] at q
    exact q)
  refine ⟨μ1, I2, ?_, h2⟩
  have hk1 := k1.trans hkb
  have kO := h.1.o.1
  have kM := hC1.M146.1
  simp (disch := omega) only [b312_1758, b312_1767, b312_1776, b312_1779, rdA_k hkb, rdA_k hk1, gO_k kO, gO_k kM, e1, k2, e2, eq_self, lgs, Jl0, Jl1, Jl2, Jl3, Jl4, Jl5, Jl6, Jl7, Jl8, Jl9, Jl10, Jl11, Jl12, Jl13, Jl14, Jl15, Jl16, Jl17, Jl18, Jl19, Jl20, Jl22, Jl24, Jl28, Jl30, Jl31, Jl32, Jl35, Jl36, Jl37, Jl38, Jl39, Jl40, Jl48, Jl57, Jl59, Jl60, Jl61, Jl63, Jl64, Jl68, Jl69, Jl96, Jl97, Jl98, Jl99, Jl100, Jl122, Jl149, Jl150, Jl165, Jl255, Jl511, Jl512, Jl600, Jl610, Jl940, Jl968, Jl999, Jl1134, Jl1152, Jl2048, Jl4608, Jl9999, Jl99999, Jl100000, Jl147456, Jl12345, Jl1103515245, Jl100000000, Jlm1, Jlm2, J_add, J_sub, J_mul, J_lt, J_le, J_eq, J_ite, J_cl, ri_j, wi_j, b2i_z, b2i_o, b2i_zo, Int.cast_ofNat_Int, Int.natCast_zero, Int.natCast_one, if_true, if_false, ite_self, Int.le_refl, J_bit, J_or, J_neg, J_oN, Int.reduceEq, Int.reduceLT, Int.reduceLE, Int.reduceNeg, Int.reduceAdd, Int.reduceSub, Int.reduceMul, Int.reduceToNat, J_shl, J_shr, V_ite, true_or, or_true, nz_j, J_div, J_rem, Option.bind_some, Option.toList_some, Option.toList_none, List.cons_append, List.nil_append, Jl21, Jl23, Jl25, Jl74, Jl83, Jl288, Jl324, Jl1800, Jlm8]
theorem op_fault (hd : 20 ≤ d) (h : INV E lo b L μ I) (hi : 0 ≤ i ∧ i + 7 ≤ (L : Int)) : STP E lo b L d i (ex PG E lo d 312 303 [some (.ref b), some (.ref lo), some (.ref ((lo + 146))), some (.int (J (i)))] [] (mj μ I)) := by
  have hl2 := h.2.2.1.2.2.1
  have hkb := h.2.2.1.2.1
  have a1 := h.b32 (j := i + 1) (by omega)
  have hc := c_fault (E := E) (lo := lo) (d := d) (I := I) (x := I b (i + 1)) (by omega) h.1 a1
  obtain ⟨t2, t3⟩ := h.2.2.2.2.1.2.2.1
  rw [t2, t3] at hc
  obtain ⟨μ1, I1, I2, e1, e2, h2, k1, k2, hC1⟩ := bothQ (r2 := fun μ' I' => cl E lo d 200 [.ref (lo + 146), .int (J (I b (i + 1)))] (mj μ' I')) h ⟨μ, I, hc, FQ.r⟩ (fun μ' I' f e hM => by
    have q := q_fault (E := E) (lo := lo) (d := d) (I := I') (M := rws I' (lo + 146)) (x := I b (i + 1)) (by omega) hM a1
    rw [show sB I' (lo + 146) 26 (rws I' (lo + 146)) = I' from sB_id] at q
    have n0 : rws I' (lo + 146) 1 = I (lo + 147) := e
    simp only [n0] at q
    exact q)
  refine ⟨μ1, I2, ?_, h2⟩
  have hk1 := k1.trans hkb
  have kO := h.1.o.1
  have kM := hC1.M146.1
  simp (disch := omega) only [b312_303, b312_312, b312_321, b312_324, rdA_k hkb, rdA_k hk1, gO_k kO, gO_k kM, e1, k2, e2, eq_self, lgs, Jl0, Jl1, Jl2, Jl3, Jl4, Jl5, Jl6, Jl7, Jl8, Jl9, Jl10, Jl11, Jl12, Jl13, Jl14, Jl15, Jl16, Jl17, Jl18, Jl19, Jl20, Jl22, Jl24, Jl28, Jl30, Jl31, Jl32, Jl35, Jl36, Jl37, Jl38, Jl39, Jl40, Jl48, Jl57, Jl59, Jl60, Jl61, Jl63, Jl64, Jl68, Jl69, Jl96, Jl97, Jl98, Jl99, Jl100, Jl122, Jl149, Jl150, Jl165, Jl255, Jl511, Jl512, Jl600, Jl610, Jl940, Jl968, Jl999, Jl1134, Jl1152, Jl2048, Jl4608, Jl9999, Jl99999, Jl100000, Jl147456, Jl12345, Jl1103515245, Jl100000000, Jlm1, Jlm2, J_add, J_sub, J_mul, J_lt, J_le, J_eq, J_ite, J_cl, ri_j, wi_j, b2i_z, b2i_o, b2i_zo, Int.cast_ofNat_Int, Int.natCast_zero, Int.natCast_one, if_true, if_false, ite_self, Int.le_refl, J_bit, J_or, J_neg, J_oN, Int.reduceEq, Int.reduceLT, Int.reduceLE, Int.reduceNeg, Int.reduceAdd, Int.reduceSub, Int.reduceMul, Int.reduceToNat, J_shl, J_shr, V_ite, true_or, or_true, nz_j, J_div, J_rem, Option.bind_some, Option.toList_some, Option.toList_none, List.cons_append, List.nil_append, Jl21, Jl23, Jl25, Jl74, Jl83, Jl288, Jl324, Jl1800, Jlm8]
theorem op_end (hd : 20 ≤ d) (h : INV E lo b L μ I) (hi : 0 ≤ i ∧ i + 7 ≤ (L : Int)) : STP E lo b L d i (ex PG E lo d 312 247 [some (.ref b), some (.ref lo), some (.ref ((lo + 146))), some (.int (J (i)))] [] (mj μ I)) := by
  have hl2 := h.2.2.1.2.2.1
  have hbl := h.2.2.1.1
  have hkb := h.2.2.1.2.1
  have a1 := h.b32 (j := i + 1) (by omega)
  obtain ⟨x, ex'⟩ : ∃ x, x = I b (i + 1) := ⟨_, rfl⟩
  have kO := h.1.o.1
  have kM := h.1.M146.1
  have hT := h.2.2.2.2.1
  obtain ⟨t1, t1a, t1b⟩ := hT.2.1
  have hc := end_sp (E := E) (lo := lo) (d := d) (I := I) (T := rws I (lo + 1)) (x := x) (by omega) kO h.1.o.2.1 h.1.D1 (by omega) (by rw [ex']; exact a1) (by show 0 ≤ I (lo + 1) 1 ∧ I (lo + 1) 1 ≤ 600; omega)
  rw [show sB I (lo + 1) 3 (rws I (lo + 1)) = I from sB_id] at hc
  have r1 : rws I (lo + 1) 0 1 = I (lo + 147) 4 := t1
  rw [r1] at hc
  obtain ⟨T1, eT1⟩ : ∃ T1, T1 = if 0 ≤ x ∧ x ≤ I (lo + 147) 4 then u3 (rws I (lo + 1)) 0 1 x else rws I (lo + 1) := ⟨_, rfl⟩
  obtain ⟨I1, eI1⟩ : ∃ I1, I1 = sB I (lo + 1) 3 T1 := ⟨_, rfl⟩
  rw [← eT1, ← eI1] at hc
  have n1 : I1 (lo + 147) = I (lo + 147) := by rw [eI1, sB_n (by omega)]
  have hq := q_end (E := E) (lo := lo) (d := d) (I := I1) (M := rws I1 (lo + 146)) (x := x) (by omega) h.1.M146 (by omega) (by rw [ex']; exact a1) (by show 0 ≤ I1 (lo + 147) 4 ∧ I1 (lo + 147) 4 ≤ 600; rw [n1]; omega)
  rw [show sB I1 (lo + 146) 26 (rws I1 (lo + 146)) = I1 from sB_id] at hq
  have n0 : rws I1 (lo + 146) 1 = I (lo + 147) := n1
  simp only [n0] at hq
  obtain ⟨M1, eM1⟩ : ∃ M1, M1 = if 0 ≤ x ∧ x ≤ I (lo + 147) 4 then u3 (rws I1 (lo + 146)) 1 4 x else rws I1 (lo + 146) := ⟨_, rfl⟩
  rw [← eM1] at hq
  have kb1 : I1 b = I b := by rw [eI1, sB_n (by omega)]
  refine ⟨μ, sB I1 (lo + 146) 26 M1, ?_, ?_⟩
  · rw [ex'] at hc hq
    simp (disch := omega) only [b312_247, b312_256, b312_265, rdA_k hkb, gO_k kO, gO_k kM, hc, kb1, hq, eq_self, Jl0, Jl1, Jl2, Jl3, Jl4, Jl5, Jl6, Jl7, Jl8, Jl9, Jl10, Jl11, Jl12, Jl13, Jl14, Jl15, Jl16, Jl17, Jl18, Jl19, Jl20, Jl22, Jl24, Jl28, Jl30, Jl31, Jl32, Jl35, Jl36, Jl37, Jl38, Jl39, Jl40, Jl48, Jl57, Jl59, Jl60, Jl61, Jl63, Jl64, Jl68, Jl69, Jl96, Jl97, Jl98, Jl99, Jl100, Jl122, Jl149, Jl150, Jl165, Jl255, Jl511, Jl512, Jl600, Jl610, Jl940, Jl968, Jl999, Jl1134, Jl1152, Jl2048, Jl4608, Jl9999, Jl99999, Jl100000, Jl147456, Jl12345, Jl1103515245, Jl100000000, Jlm1, Jlm2, J_add, J_sub, J_mul, J_lt, J_le, J_eq, J_ite, J_cl, ri_j, wi_j, b2i_z, b2i_o, b2i_zo, Int.cast_ofNat_Int, Int.natCast_zero, Int.natCast_one, if_true, if_false, ite_self, Int.le_refl, J_bit, J_or, J_neg, J_oN, Int.reduceEq, Int.reduceLT, Int.reduceLE, Int.reduceNeg, Int.reduceAdd, Int.reduceSub, Int.reduceMul, Int.reduceToNat, J_shl, J_shr, V_ite, true_or, or_true, nz_j, J_div, J_rem, Option.bind_some, Option.toList_some, Option.toList_none, List.cons_append, List.nil_append, Jl21, Jl23, Jl25, Jl74, Jl83, Jl288, Jl324, Jl1800, Jlm8]
  · have g : ∀ a, ¬ (lo + 1 ≤ a ∧ a < lo + 4) → ¬ (lo + 146 ≤ a ∧ a < lo + 172) → sB I1 (lo + 146) 26 M1 a = I a := fun a z1 z2 => by rw [sB_n (by omega), eI1, sB_n (by omega)]
    have g7 : sB I1 (lo + 146) 26 M1 (lo + 147) = M1 1 := sB_c (c := 1) (by omega)
    have g8 : sB I1 (lo + 146) 26 M1 (lo + 148) = M1 2 := sB_c (c := 2) (by omega)
    have m1 : ∀ j, M1 1 j = if j = 4 ∧ 0 ≤ x ∧ x ≤ I (lo + 147) 4 then x else I (lo + 147) j := fun j => by
      rw [eM1]
      by_cases c : 0 ≤ x ∧ x ≤ I (lo + 147) 4
      · rw [if_pos c]
        by_cases cj : j = 4
        · rw [cj, u3_s, if_pos ⟨rfl, c⟩]
        · rw [u3_n (fun z => cj z.2), if_neg (fun z => cj z.1), n0]
      · rw [if_neg c, if_neg (fun z => c z.2), n0]
    have m2 : M1 2 = I (lo + 148) := by
      have : I1 (lo + 148) = I (lo + 148) := by rw [eI1, sB_n (by omega)]
      rw [eM1]
      split
      · rw [u3_c (by decide)]; exact this
      · exact this
    have i0 : ∀ j, sB I1 (lo + 146) 26 M1 (lo + 1) j = if j = 1 ∧ 0 ≤ x ∧ x ≤ I (lo + 147) 4 then x else I (lo + 1) j := fun j => by
      rw [sB_n (by omega), eI1, sB_0 (by omega), eT1]
      by_cases c : 0 ≤ x ∧ x ≤ I (lo + 147) 4
      · rw [if_pos c]
        by_cases cj : j = 1
        · rw [cj, u3_s, if_pos ⟨rfl, c⟩]
        · rw [u3_n (fun z => cj z.2), if_neg (fun z => cj z.1)]
          rfl
      · rw [if_neg c, if_neg (fun z => c z.2)]
        rfl
    have i1 : ∀ f, (f = 1 ∨ f = 2) → sB I1 (lo + 146) 26 M1 (lo + 1 + f) = I (lo + 1 + f) := fun f hf => by
      rw [sB_n (by omega), eI1, sB_c (by omega), eT1]
      split
      · rw [u3_c (by omega)]
        rfl
      · rfl
    refine INV_T h (fun a z1 _ z3 => g a (by omega) z3) (fun j hj => by rw [g7, m1, if_neg (by omega)]) (by rw [g8, m2]) ?_
    refine TRl_h hT (fun y z1 z2 => ?_) (fun j z1 z2 z3 => by rw [g7, m1, if_neg (by omega)]) ?_ ?_ (fun j z1 z2 => ?_)
    · by_cases c : y = lo + 1 + 2
      · rw [c]; exact i1 2 (Or.inr rfl)
      · exact g y (by omega) (by omega)
    · rw [i0, g7, m1]
      by_cases c : 0 ≤ x ∧ x ≤ I (lo + 147) 4
      · rw [if_pos ⟨rfl, c⟩, if_pos ⟨rfl, c⟩]
        omega
      · rw [if_neg (fun z => c z.2), if_neg (fun z => c z.2)]
        exact hT.2.1
    · rw [i0, i0, g7, m1, m1, if_neg (by omega), if_neg (by omega), if_neg (by omega), if_neg (by omega)]
      exact hT.2.2.1
    · dsimp only
      rw [i1 1 (Or.inl rfl), g7, m1, if_neg (by omega)]
      exact hT.2.2.2.1 j z1 z2
theorem op_feed (hd : 20 ≤ d) (h : INV E lo b L μ I) (hi : 0 ≤ i ∧ i + 7 ≤ (L : Int)) : STP E lo b L d i (ex PG E lo d 312 184 [some (.ref b), some (.ref lo), some (.ref ((lo + 146))), some (.int (J (i)))] [] (mj μ I)) := by
  have hl2 := h.2.2.1.2.2.1
  have hbl := h.2.2.1.1
  have hkb := h.2.2.1.2.1
  have a1 := h.b32 (j := i + 1) (by omega)
  have a2 := h.b32 (j := i + 2) (by omega)
  have a3 := h.b32 (j := i + 3) (by omega)
  have a4 := h.b32 (j := i + 4) (by omega)
  have a5 := h.b32 (j := i + 5) (by omega)
  have kO := h.1.o.1
  have kM := h.1.M146.1
  have hT := h.2.2.2.2.1
  obtain ⟨t1, t1a, t1b⟩ := hT.2.1
  have hc := feed_sp (E := E) (lo := lo) (d := d) (I := I) (T := rws I (lo + 1)) (a := I b (i + 1)) (b := I b (i + 2)) (c := I b (i + 3)) (e := I b (i + 4)) (f := I b (i + 5)) (by omega) kO h.1.o.2.1 h.1.D1 (by omega) ⟨a1, a2, a3, a4, a5⟩ (by show 0 ≤ I (lo + 1) 1 ∧ I (lo + 1) 1 ≤ 600; omega)
  rw [show sB I (lo + 1) 3 (rws I (lo + 1)) = I from sB_id] at hc
  have r1 : rws I (lo + 1) 0 1 = I (lo + 147) 4 := t1
  obtain ⟨B, eB⟩ : ∃ B, B = fdB (I b (i + 1)) (I b (i + 2)) (I b (i + 3)) (I b (i + 4)) (I b (i + 5)) := ⟨_, rfl⟩
  have hB : ∀ j, 0 ≤ B j ∧ B j < 256 := fun j => by
    rw [eB]
    unfold fdB byQ
    omega
  rw [r1, ← eB] at hc
  obtain ⟨T1, eT1⟩ : ∃ T1, T1 = if I (lo + 147) 4 ≤ 580 then fdT (rws I (lo + 1)) B 20 else rws I (lo + 1) := ⟨_, rfl⟩
  obtain ⟨I1, eI1⟩ : ∃ I1, I1 = sB I (lo + 1) 3 T1 := ⟨_, rfl⟩
  rw [← eT1, ← eI1] at hc
  have n1 : I1 (lo + 147) = I (lo + 147) := by rw [eI1, sB_n (by omega)]
  have hq := q_feed (E := E) (lo := lo) (d := d) (I := I1) (M := rws I1 (lo + 146)) (a := I b (i + 1)) (b := I b (i + 2)) (c := I b (i + 3)) (e := I b (i + 4)) (f := I b (i + 5)) (by omega) h.1.M146 (by omega) ⟨a1, a2, a3, a4, a5⟩ (by show 0 ≤ I1 (lo + 147) 4 ∧ I1 (lo + 147) 4 ≤ 600; rw [n1]; omega)
  rw [show sB I1 (lo + 146) 26 (rws I1 (lo + 146)) = I1 from sB_id, ← eB] at hq
  have n0 : rws I1 (lo + 146) 1 = I (lo + 147) := n1
  simp only [n0] at hq
  obtain ⟨M1, eM1⟩ : ∃ M1, M1 = if I (lo + 147) 4 ≤ 580 then fdM (rws I1 (lo + 146)) B 20 else rws I1 (lo + 146) := ⟨_, rfl⟩
  rw [← eM1] at hq
  have kb1 : I1 b = I b := by rw [eI1, sB_n (by omega)]
  refine ⟨μ, sB I1 (lo + 146) 26 M1, ?_, ?_⟩
  · simp (disch := omega) only [b312_184, b312_213, b312_242, rdA_k hkb, gO_k kO, gO_k kM, hc, kb1, hq, eq_self, Jl0, Jl1, Jl2, Jl3, Jl4, Jl5, Jl6, Jl7, Jl8, Jl9, Jl10, Jl11, Jl12, Jl13, Jl14, Jl15, Jl16, Jl17, Jl18, Jl19, Jl20, Jl22, Jl24, Jl28, Jl30, Jl31, Jl32, Jl35, Jl36, Jl37, Jl38, Jl39, Jl40, Jl48, Jl57, Jl59, Jl60, Jl61, Jl63, Jl64, Jl68, Jl69, Jl96, Jl97, Jl98, Jl99, Jl100, Jl122, Jl149, Jl150, Jl165, Jl255, Jl511, Jl512, Jl600, Jl610, Jl940, Jl968, Jl999, Jl1134, Jl1152, Jl2048, Jl4608, Jl9999, Jl99999, Jl100000, Jl147456, Jl12345, Jl1103515245, Jl100000000, Jlm1, Jlm2, J_add, J_sub, J_mul, J_lt, J_le, J_eq, J_ite, J_cl, ri_j, wi_j, b2i_z, b2i_o, b2i_zo, Int.cast_ofNat_Int, Int.natCast_zero, Int.natCast_one, if_true, if_false, ite_self, Int.le_refl, J_bit, J_or, J_neg, J_oN, Int.reduceEq, Int.reduceLT, Int.reduceLE, Int.reduceNeg, Int.reduceAdd, Int.reduceSub, Int.reduceMul, Int.reduceToNat, J_shl, J_shr, V_ite, true_or, or_true, nz_j, J_div, J_rem, Option.bind_some, Option.toList_some, Option.toList_none, List.cons_append, List.nil_append, Jl21, Jl23, Jl25, Jl74, Jl83, Jl288, Jl324, Jl1800, Jlm8]
  · have g : ∀ a, ¬ (lo + 1 ≤ a ∧ a < lo + 4) → ¬ (lo + 146 ≤ a ∧ a < lo + 172) → sB I1 (lo + 146) 26 M1 a = I a := fun a z1 z2 => by rw [sB_n (by omega), eI1, sB_n (by omega)]
    have g7 : sB I1 (lo + 146) 26 M1 (lo + 147) = M1 1 := sB_c (c := 1) (by omega)
    have g8 : sB I1 (lo + 146) 26 M1 (lo + 148) = M1 2 := sB_c (c := 2) (by omega)
    obtain ⟨ℓ, eℓ⟩ : ∃ ℓ, ℓ = I (lo + 147) 4 := ⟨_, rfl⟩
    have m1 : ∀ j, M1 1 j = if ℓ ≤ 580 ∧ 10 + ℓ ≤ j ∧ j < 10 + ℓ + 20 then B (j - 10 - ℓ) else if ℓ ≤ 580 ∧ j = 4 then ℓ + 20 else I (lo + 147) j := fun j => by
      rw [eM1, eℓ]
      by_cases c : I (lo + 147) 4 ≤ 580
      · rw [if_pos c]
        unfold fdM
        rw [n0]
        grind
      · rw [if_neg c, if_neg (fun z => c z.1), if_neg (fun z => c z.1), n0]
    have m2 : M1 2 = I (lo + 148) := by
      have : I1 (lo + 148) = I (lo + 148) := by rw [eI1, sB_n (by omega)]
      rw [eM1]
      split
      · funext j
        unfold fdM
        rw [if_neg (by omega), if_neg (by omega)]
        exact congrFun this j
      · exact this
    have i0 : ∀ j, sB I1 (lo + 146) 26 M1 (lo + 1) j = if ℓ ≤ 580 ∧ j = 1 then ℓ + 20 else I (lo + 1) j := fun j => by
      rw [sB_n (by omega), eI1, sB_0 (by omega), eT1, eℓ]
      by_cases c : I (lo + 147) 4 ≤ 580
      · rw [if_pos c]
        unfold fdT
        rw [if_neg (by omega), r1]
        by_cases c2 : j = 1
        · rw [if_pos ⟨rfl, c2⟩, if_pos ⟨c, c2⟩]
        · rw [if_neg (fun z => c2 z.2), if_neg (fun z => c2 z.2)]
          rfl
      · rw [if_neg c, if_neg (fun z => c z.1)]
        rfl
    have i1 : ∀ j, sB I1 (lo + 146) 26 M1 (lo + 1 + 1) j = if ℓ ≤ 580 ∧ ℓ ≤ j ∧ j < ℓ + 20 then s8 (B (j - ℓ)) else I (lo + 1 + 1) j := fun j => by
      rw [sB_n (by omega), eI1, sB_c (by omega), eT1, eℓ]
      by_cases c : I (lo + 147) 4 ≤ 580
      · rw [if_pos c]
        unfold fdT
        rw [r1]
        by_cases c2 : I (lo + 147) 4 ≤ j ∧ j < I (lo + 147) 4 + 20
        · rw [if_pos ⟨rfl, c2⟩, if_pos ⟨c, c2⟩]
        · rw [if_neg (fun z => c2 z.2), if_neg (by omega), if_neg (fun z => c2 z.2)]
          rfl
      · rw [if_neg c, if_neg (fun z => c z.1)]
        rfl
    have i2 : sB I1 (lo + 146) 26 M1 (lo + 1 + 2) = I (lo + 1 + 2) := by
      rw [sB_n (by omega), eI1, sB_c (by omega), eT1]
      split
      · funext j
        unfold fdT
        rw [if_neg (by omega), if_neg (by omega)]
        rfl
      · rfl
    rw [← eℓ] at t1 t1a t1b
    refine INV_T h (fun a z1 _ z3 => g a (by omega) z3) (fun j hj => by rw [g7, m1, if_neg (by omega), if_neg (by omega)]) (by rw [g8, m2]) ?_
    refine TRl_h hT (fun y z1 z2 => ?_) (fun j z1 z2 z3 => by rw [g7, m1, if_neg (by omega), if_neg (by omega)]) ?_ ?_ (fun j z1 z2 => ?_)
    · by_cases c : y = lo + 1 + 2
      · rw [c]; exact i2
      · exact g y (by omega) (by omega)
    · rw [i0, g7, m1]
      by_cases c : ℓ ≤ 580
      · rw [if_pos ⟨c, rfl⟩, if_neg (by omega), if_pos ⟨c, rfl⟩]
        omega
      · rw [if_neg (fun z => c z.1), if_neg (fun z => c z.1), if_neg (fun z => c z.1)]
        exact hT.2.1
    · rw [i0, i0, g7, m1, m1, if_neg (by omega), if_neg (by omega), if_neg (by omega), if_neg (by omega), if_neg (by omega), if_neg (by omega)]
      exact hT.2.2.1
    · dsimp only
      rw [i1, g7, m1]
      by_cases c : ℓ ≤ 580 ∧ ℓ ≤ j ∧ j < ℓ + 20
      · rw [if_pos c, if_pos (by omega), show 10 + j - 10 - ℓ = j - ℓ by omega]
        exact ⟨rfl, hB _⟩
      · rw [if_neg c, if_neg (by omega), if_neg (by omega)]
        exact hT.2.2.2.1 j z1 z2
end LAW
