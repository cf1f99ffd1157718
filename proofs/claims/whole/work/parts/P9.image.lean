/-! THE LAW: image, again, by both -/
theorem TRl_dst {I I0 I' : Nat → Int → Int} {a b : Nat} (h : ∀ x, a ≤ x → x < a + 47 → I' x = I0 x) (c : CPT I I0 a b) : CPT I I' a b := by
  obtain ⟨w1, w2, w3, ⟨s0, l0, r0, k0⟩, ⟨s1, l1, r1, k1⟩⟩ := c
  have w : ∀ k f, k + f < 47 → rws I0 (a + k) f = rws I' (a + k) f := fun k f q => (h _ (by omega) (by omega)).symm
  exact ⟨by rw [h a (by omega) (by omega)]; exact w1, fun j z1 z2 => by rw [h _ (by omega) (by omega)]; exact w2 j z1 z2, fun j z1 z2 => by rw [h _ (by omega) (by omega)]; exact w3 j z1 z2, ⟨agS_c (fun _ _ => rfl) (fun f hf => w 7 f (by omega)) s0, agL_c (fun _ _ => rfl) (fun f hf => w 20 f (by omega)) l0, agR_c (fun _ _ => rfl) (fun f hf => w 22 f (by omega)) r0, agC_c (fun _ _ => rfl) (fun f hf => w 25 f (by omega)) k0⟩, ⟨agS_c (fun _ _ => rfl) (fun f hf => w 27 f (by omega)) s1, agL_c (fun _ _ => rfl) (fun f hf => w 40 f (by omega)) l1, agR_c (fun _ _ => rfl) (fun f hf => w 42 f (by omega)) r1, agC_c (fun _ _ => rfl) (fun f hf => w 45 f (by omega)) k1⟩⟩
theorem TS_ml {μ μ' : rM} {t : Nat} (h : TS μ t) (hk : ∀ a, t ≤ a → a < t + 47 → rk μ' a = rk μ a) (hr : ∀ a f, t ≤ a → a < t + 47 → rr μ' a f = rr μ a f) : TS μ' t := by
  obtain ⟨hD, ⟨a30, a31⟩, ⟨a40, a41⟩, ⟨a50, a51⟩, ⟨a60, a61⟩, ⟨aS0, aS1⟩, ⟨aL0, aL1⟩, ⟨aR0, aR1⟩, ⟨aC0, aC1⟩⟩ := h
  have sh : ∀ {c b : Nat} {l : List (Nat × Nat × Nat × Nat)} (w : Nat), t ≤ b → b + w < t + 47 → (∀ q ∈ l, q.2.1 ≤ w) → (rk μ b = some (.inl c) ∧ ∀ q ∈ l, rr μ b q.1 = some (b + q.2.1) ∧ rk μ (b + q.2.1) = some (.inr (q.2.2.1, q.2.2.2))) → (rk μ' b = some (.inl c) ∧ ∀ q ∈ l, rr μ' b q.1 = some (b + q.2.1) ∧ rk μ' (b + q.2.1) = some (.inr (q.2.2.1, q.2.2.2))) := fun w q1 q2 q3 z => ⟨by rw [hk _ q1 (by omega)]; exact z.1, fun q hq => ⟨by rw [hr _ _ q1 (by omega)]; exact (z.2 q hq).1, by rw [hk _ (by omega) (by have := q3 q hq; omega)]; exact (z.2 q hq).2⟩⟩
  exact ⟨sh 6 (by omega) (by omega) (by decide) hD, ⟨by rw [hr _ _ (by omega) (by omega)]; exact a30, by rw [hr _ _ (by omega) (by omega)]; exact a31⟩, ⟨by rw [hr _ _ (by omega) (by omega)]; exact a40, by rw [hr _ _ (by omega) (by omega)]; exact a41⟩, ⟨by rw [hr _ _ (by omega) (by omega)]; exact a50, by rw [hr _ _ (by omega) (by omega)]; exact a51⟩, ⟨by rw [hr _ _ (by omega) (by omega)]; exact a60, by rw [hr _ _ (by omega) (by omega)]; exact a61⟩, ⟨sh 12 (by omega) (by omega) (by decide) aS0, sh 12 (by omega) (by omega) (by decide) aS1⟩, ⟨sh 1 (by omega) (by omega) (by decide) aL0, sh 1 (by omega) (by omega) (by decide) aL1⟩, ⟨sh 2 (by omega) (by omega) (by decide) aR0, sh 2 (by omega) (by omega) (by decide) aR1⟩, ⟨sh 1 (by omega) (by omega) (by decide) aC0, sh 1 (by omega) (by omega) (by decide) aC1⟩⟩
section LAW
variable {E : (Nat → Value) × (Nat → Nat)} {lo b L d : Nat} {μ : rM} {I : Nat → Int → Int} {i : Int}
theorem op_image (hd : 20 ≤ d) (h : INV E lo b L μ I) (hi : 0 ≤ i ∧ i + 7 ≤ (L : Int)) : STP E lo b L d i (ex PG E lo d 312 1781 [some (.ref b), some (.ref lo), some (.ref ((lo + 146))), some (.int (J (i)))] [] (mj μ I)) := by
  have hl2 := h.2.2.1.2.2.1
  have hbl := h.2.2.1.1
  have hkb := h.2.2.1.2.1
  have a1 := h.b32 (j := i + 1) (by omega)
  have kO := h.1.o.1
  obtain ⟨x, eX⟩ : ∃ x, x = I b (i + 1) := ⟨_, rfl⟩
  rw [← eX] at a1
  have a1' := a1
  unfold i32 at a1'
  have hT := h.2.2.2.2.1
  have hG := h.2.2.2.2.2.1
  have hR := h.2.2.2.2.2.2
  by_cases c : 0 ≤ x ∧ x ≤ 2
  · obtain ⟨μ1, I1, t, e1, g1, cp, ts1, lt1, lt2, rk1, rr1, rrt, alt⟩ := c_image (E := E) (d := d) (by omega) h c
    have hsum : ∀ j : Nat, j < 3 → 0 ≤ I (lo + 148) (j : Int) ∧ I (lo + 148) (j : Int) ≤ 1 := fun j hj => by
      rcases hG j hj with q | q <;> omega
    have u0 : 0 ≤ I (lo + 148) 0 ∧ I (lo + 148) 0 ≤ 1 := hsum 0 (by omega)
    have u1 : 0 ≤ I (lo + 148) 1 ∧ I (lo + 148) 1 ≤ 1 := hsum 1 (by omega)
    have u2 : 0 ≤ I (lo + 148) 2 ∧ I (lo + 148) 2 ≤ 1 := hsum 2 (by omega)
    have hz : lo + 172 ≤ rz μ := by
      have := hR.1
      omega
    have hC1 : CO μ1 lo := CO_ext h.1 (fun a z => rk1 a (by omega)) (fun a f z1 z2 => rr1 a f (by omega) (fun w => z2 w.1))
    have lo1 : ∀ a, a < lo + 172 → I1 a = I a := fun a z => g1 a (by omega) (by omega)
    have hq := q_image (E := E) (lo := lo) (d := d) (μ := μ1) (I := I1) (M := rws I1 (lo + 146)) (x := x) (by omega) hC1.M146 (by omega) a1
    rw [show sB I1 (lo + 146) 26 (rws I1 (lo + 146)) = I1 from sB_id, if_pos c, decide_eq_true c, b2i_t] at hq
    have n0 : rws I1 (lo + 146) 1 = I (lo + 147) := lo1 _ (by omega)
    have n2 : rws I1 (lo + 146) 2 = I (lo + 148) := lo1 _ (by omega)
    obtain ⟨M1, eM1⟩ : ∃ M1, M1 = imM (rws I1 (lo + 146)) x 1152 := ⟨_, rfl⟩
    rw [← eM1] at hq
    have m1 : ∀ j, M1 1 j = if 1152 * (x + 1) ≤ j ∧ j < 1152 * (x + 1) + 1152 then I (lo + 147) (j - 1152 * (x + 1)) else I (lo + 147) j := fun j => by
      rw [eM1]
      unfold imM
      rw [n0]
      by_cases cj : 1152 * (x + 1) ≤ j ∧ j < 1152 * (x + 1) + 1152
      · rw [if_pos ⟨rfl, cj⟩, if_pos cj]
      · rw [if_neg (fun z => cj z.2), if_neg cj, if_neg (by omega)]
    have m2 : ∀ j, M1 2 j = if j = x then 1 else I (lo + 148) j := fun j => by
      rw [eM1]
      unfold imM
      rw [if_neg (by omega), n2]
      by_cases cj : j = x
      · rw [if_pos ⟨rfl, cj⟩, if_pos cj]
      · rw [if_neg (fun z => cj z.2), if_neg cj]
    have kb1 : I1 b = I b := lo1 _ (by omega)
    have hk1 : rk μ1 b = some (.inr (0, L)) := by rw [rk1 _ (by omega)]; exact hkb
    have kM := hC1.M146.1
    have g7 : sB I1 (lo + 146) 26 M1 (lo + 147) = M1 1 := sB_c (c := 1) (by omega)
    have g8 : sB I1 (lo + 146) 26 M1 (lo + 148) = M1 2 := sB_c (c := 2) (by omega)
    have gI : ∀ y, ¬ (lo + 146 ≤ y ∧ y < lo + 172) → sB I1 (lo + 146) 26 M1 y = I1 y := fun y z => sB_n (by omega)
    have gJ : ∀ y, y < lo + 146 → sB I1 (lo + 146) 26 M1 y = I y := fun y z => by rw [gI y (by omega)]; exact lo1 y (by omega)
    have ex3 : x.toNat < 3 := by omega
    have exx : ((x.toNat : Nat) : Int) = x := by omega
    refine ⟨μ1, sB I1 (lo + 146) 26 M1, ?_, hC1, ?_, ⟨hbl, hk1, hl2, fun j z1 z2 => by rw [gJ b (by omega)]; exact h.b32 ⟨z1, z2⟩⟩, ⟨?_, ?_, ?_⟩, ?_, ?_, ?_⟩
    · rw [eX] at e1 hq
      simp (disch := omega) only [b312_1781, b312_1790, b312_1799, rdA_k hkb, rdA_k hk1, gO_k kO, gO_k kM, e1, kb1, hq, eq_self, Jl0, Jl1, Jl2, Jl3, Jl4, Jl5, Jl6, Jl7, Jl8, Jl9, Jl10, Jl11, Jl12, Jl13, Jl14, Jl15, Jl16, Jl17, Jl18, Jl19, Jl20, Jl22, Jl24, Jl28, Jl30, Jl31, Jl32, Jl35, Jl36, Jl37, Jl38, Jl39, Jl40, Jl48, Jl57, Jl59, Jl60, Jl61, Jl63, Jl64, Jl68, Jl69, Jl96, Jl97, Jl98, Jl99, Jl100, Jl122, Jl149, Jl150, Jl165, Jl255, Jl511, Jl512, Jl600, Jl610, Jl940, Jl968, Jl999, Jl1134, Jl1152, Jl2048, Jl4608, Jl9999, Jl99999, Jl100000, Jl147456, Jl12345, Jl1103515245, Jl100000000, Jlm1, Jlm2, J_add, J_sub, J_mul, J_lt, J_le, J_eq, J_ite, J_cl, ri_j, wi_j, b2i_z, b2i_o, b2i_zo, Int.cast_ofNat_Int, Int.natCast_zero, Int.natCast_one, if_true, if_false, ite_self, Int.le_refl, J_bit, J_or, J_neg, J_oN, Int.reduceEq, Int.reduceLT, Int.reduceLE, Int.reduceNeg, Int.reduceAdd, Int.reduceSub, Int.reduceMul, Int.reduceToNat, J_shl, J_shr, V_ite, true_or, or_true, nz_j, J_div, J_rem, Option.bind_some, Option.toList_some, Option.toList_none, List.cons_append, List.nil_append, Jl21, Jl23, Jl25, Jl74, Jl83, Jl288, Jl324, Jl1800, Jlm8]
    · exact Sta_m (Sta_fr h.2.1 (fun y z => gJ y (by omega))) (fun a z => rk1 a (by omega))
    · rw [gJ _ (by omega), gJ _ (by omega)]
      exact h.2.2.2.1.1
    · have := h.2.2.2.1.2.1
      unfold SIL at *
      rw [gJ _ (by omega), gJ _ (by omega), gJ _ (by omega), gJ _ (by omega)]
      exact this
    · have e0 : rws (sB I1 (lo + 146) 26 M1) (lo + 72) 0 = rws I (lo + 72) 0 := gJ _ (by omega)
      have e1 : rws (sB I1 (lo + 146) 26 M1) (lo + 72) 1 = rws I (lo + 72) 1 := gJ _ (by omega)
      have := h.2.2.2.1.2.2
      unfold LV at *
      rw [e0, e1]
      exact this
    · exact TRl_fr (fun y z1 z2 => gJ y (by omega)) (fun j z1 z2 => by rw [g7, m1, if_neg (by omega)]) hT
    · intro k hk
      by_cases ck : k = x.toNat
      · refine Or.inr ⟨by rw [g8, m2, if_pos (by omega)], t, by rw [ck]; exact rrt, ⟨lt1, lt2⟩, ts1, ?_, fun k' z1 z2 t' z3 => ?_⟩
        · refine TRl_cp (I := I) (b := lo + 1) (A := I (lo + 147)) ?_ (fun j z1 z2 => ?_) hT
          · refine TRl_dst (fun y z1 z2 => gI y (by omega)) cp
          · rw [g7, m1, if_pos (by omega)]
            congr 1
            omega
        · rw [rr1 _ _ (by omega) (by omega)] at z3
          rcases hG k' z1 with ⟨w1, w2⟩ | ⟨w1, t'', w2, w3, w4, w5, w6⟩
          · rw [w2] at z3
            cases z3
          · rw [w2] at z3
            cases z3
            rcases alt with ⟨y1, y2, y3, y4⟩ | ⟨y1, y2, y3⟩
            · omega
            · have := w6 x.toNat ex3 (by omega) t y1
              omega
      · have erk : rr μ1 (lo + 48) k = rr μ (lo + 48) k := rr1 _ _ (by omega) (fun z => ck z.2)
        rw [erk, g8, m2, if_neg (by omega)]
        rcases hG k hk with w | ⟨w1, t'', w2, w3, w4, w5, w6⟩
        · exact Or.inl w
        · have dis : t + 47 ≤ t'' ∨ t'' + 47 ≤ t := by
            rcases alt with ⟨y1, y2, y3, y4⟩ | ⟨y1, y2, y3⟩
            · omega
            · have := w6 x.toNat ex3 (fun z => ck z.symm) t y1
              omega
          have rzm : rz μ ≤ rz μ1 := by
            rcases alt with ⟨y1, y2, y3, y4⟩ | ⟨y1, y2, y3⟩ <;> omega
          refine Or.inr ⟨w1, t'', w2, ⟨w3.1, by omega⟩, ?_, ?_, fun k' z1 z2 t' z3 => ?_⟩
          · exact TS_ml w4 (fun a z1 z2 => rk1 a (by omega)) (fun a f z1 z2 => rr1 a f (by omega) (by omega))
          · exact TRl_fr (fun y z1 z2 => by rw [gI y (by omega)]; exact g1 y (by omega) (by omega)) (fun j z1 z2 => by
              rw [g7, m1, if_neg (by omega)]) w5
          · by_cases ck' : k' = x.toNat
            · rw [ck', rrt] at z3
              cases z3
              omega
            · rw [rr1 _ _ (by omega) (fun z => ck' z.2)] at z3
              exact w6 k' z1 z2 t' z3
    · have hd' : ∀ j : Int, M1 2 j = if j = x then 1 else I (lo + 148) j := m2
      unfold ROOM at *
      rw [g8, m2, m2, m2]
      have hx3 : x = 0 ∨ x = 1 ∨ x = 2 := by omega
      rcases alt with ⟨y1, y2, y3, y4⟩ | ⟨y1, y2, y3⟩
      · have z0 : I (lo + 148) x = 0 := by
          rcases hG x.toNat ex3 with ⟨w1, w2⟩ | ⟨w1, t'', w2, _⟩
          · rw [exx] at w1; exact w1
          · rw [w2] at y1; cases y1
        rcases hx3 with rfl | rfl | rfl <;> simp <;> omega
      · have z0 : I (lo + 148) x = 1 := by
          rcases hG x.toNat ex3 with ⟨w1, w2⟩ | ⟨w1, t'', w2, _⟩
          · rw [w2] at y1; cases y1
          · rw [exx] at w1; exact w1
        rcases hx3 with rfl | rfl | rfl <;> simp <;> omega
  · have hq := q_image (E := E) (lo := lo) (d := d) (μ := μ) (I := I) (M := rws I (lo + 146)) (x := x) (by omega) h.1.M146 (by omega) a1
    rw [show (if 0 ≤ x ∧ x ≤ 2 then imM (rws I (lo + 146)) x 1152 else rws I (lo + 146)) = rws I (lo + 146) from if_neg c, show sB I (lo + 146) 26 (rws I (lo + 146)) = I from sB_id, decide_eq_false c, b2i_f] at hq
    have hc : cl E lo d 158 [.ref lo, .int (J x)] (mj μ I) = some (some (.int (J 0)), mj μ I) := by
      obtain ⟨d, rfl⟩ : ∃ e, d = e + 1 := ⟨d - 1, by omega⟩
      by_cases c1 : x < 0
      · simp (disch := omega) only [b158_0, b158_9, e158, Jl0, Jl1, Jl2, Jl3, Jl4, Jl5, Jl6, Jl7, Jl8, Jl9, Jl10, Jl11, Jl12, Jl13, Jl14, Jl15, Jl16, Jl17, Jl18, Jl19, Jl20, Jl22, Jl24, Jl28, Jl30, Jl31, Jl32, Jl35, Jl36, Jl37, Jl38, Jl39, Jl40, Jl48, Jl57, Jl59, Jl60, Jl61, Jl63, Jl64, Jl68, Jl69, Jl96, Jl97, Jl98, Jl99, Jl100, Jl122, Jl149, Jl150, Jl165, Jl255, Jl511, Jl512, Jl600, Jl610, Jl940, Jl968, Jl999, Jl1134, Jl1152, Jl2048, Jl4608, Jl9999, Jl99999, Jl100000, Jl147456, Jl12345, Jl1103515245, Jl100000000, Jlm1, Jlm2, J_add, J_sub, J_mul, J_lt, J_le, J_eq, J_ite, J_cl, ri_j, wi_j, b2i_z, b2i_o, b2i_zo, Int.cast_ofNat_Int, Int.natCast_zero, Int.natCast_one, if_true, if_false, ite_self, Int.le_refl, J_bit, J_or, J_neg, J_oN, Int.reduceEq, Int.reduceLT, Int.reduceLE, Int.reduceNeg, Int.reduceAdd, Int.reduceSub, Int.reduceMul, Int.reduceToNat, J_shl, J_shr, V_ite, true_or, or_true, nz_j, J_div, J_rem, Option.bind_some, Option.toList_some, Option.toList_none, List.cons_append, List.nil_append, Jl21, Jl23, Jl25, Jl74, Jl83, Jl288, Jl324, Jl1800, Jlm8]
        repeat (first | rw [if_neg (by omega)] | rw [if_pos (by omega)])
      · simp (disch := omega) only [b158_0, b158_4, b158_9, e158, Jl0, Jl1, Jl2, Jl3, Jl4, Jl5, Jl6, Jl7, Jl8, Jl9, Jl10, Jl11, Jl12, Jl13, Jl14, Jl15, Jl16, Jl17, Jl18, Jl19, Jl20, Jl22, Jl24, Jl28, Jl30, Jl31, Jl32, Jl35, Jl36, Jl37, Jl38, Jl39, Jl40, Jl48, Jl57, Jl59, Jl60, Jl61, Jl63, Jl64, Jl68, Jl69, Jl96, Jl97, Jl98, Jl99, Jl100, Jl122, Jl149, Jl150, Jl165, Jl255, Jl511, Jl512, Jl600, Jl610, Jl940, Jl968, Jl999, Jl1134, Jl1152, Jl2048, Jl4608, Jl9999, Jl99999, Jl100000, Jl147456, Jl12345, Jl1103515245, Jl100000000, Jlm1, Jlm2, J_add, J_sub, J_mul, J_lt, J_le, J_eq, J_ite, J_cl, ri_j, wi_j, b2i_z, b2i_o, b2i_zo, Int.cast_ofNat_Int, Int.natCast_zero, Int.natCast_one, if_true, if_false, ite_self, Int.le_refl, J_bit, J_or, J_neg, J_oN, Int.reduceEq, Int.reduceLT, Int.reduceLE, Int.reduceNeg, Int.reduceAdd, Int.reduceSub, Int.reduceMul, Int.reduceToNat, J_shl, J_shr, V_ite, true_or, or_true, nz_j, J_div, J_rem, Option.bind_some, Option.toList_some, Option.toList_none, List.cons_append, List.nil_append, Jl21, Jl23, Jl25, Jl74, Jl83, Jl288, Jl324, Jl1800, Jlm8]
        repeat (first | rw [if_neg (by omega)] | rw [if_pos (by omega)])
    have kM := h.1.M146.1
    refine ⟨μ, I, ?_, h⟩
    rw [eX] at hc hq
    simp (disch := omega) only [b312_1781, b312_1790, b312_1799, rdA_k hkb, gO_k kO, gO_k kM, hc, hq, eq_self, Jl0, Jl1, Jl2, Jl3, Jl4, Jl5, Jl6, Jl7, Jl8, Jl9, Jl10, Jl11, Jl12, Jl13, Jl14, Jl15, Jl16, Jl17, Jl18, Jl19, Jl20, Jl22, Jl24, Jl28, Jl30, Jl31, Jl32, Jl35, Jl36, Jl37, Jl38, Jl39, Jl40, Jl48, Jl57, Jl59, Jl60, Jl61, Jl63, Jl64, Jl68, Jl69, Jl96, Jl97, Jl98, Jl99, Jl100, Jl122, Jl149, Jl150, Jl165, Jl255, Jl511, Jl512, Jl600, Jl610, Jl940, Jl968, Jl999, Jl1134, Jl1152, Jl2048, Jl4608, Jl9999, Jl99999, Jl100000, Jl147456, Jl12345, Jl1103515245, Jl100000000, Jlm1, Jlm2, J_add, J_sub, J_mul, J_lt, J_le, J_eq, J_ite, J_cl, ri_j, wi_j, b2i_z, b2i_o, b2i_zo, Int.cast_ofNat_Int, Int.natCast_zero, Int.natCast_one, if_true, if_false, ite_self, Int.le_refl, J_bit, J_or, J_neg, J_oN, Int.reduceEq, Int.reduceLT, Int.reduceLE, Int.reduceNeg, Int.reduceAdd, Int.reduceSub, Int.reduceMul, Int.reduceToNat, J_shl, J_shr, V_ite, true_or, or_true, nz_j, J_div, J_rem, Option.bind_some, Option.toList_some, Option.toList_none, List.cons_append, List.nil_append, Jl21, Jl23, Jl25, Jl74, Jl83, Jl288, Jl324, Jl1800, Jlm8]
theorem op_again (hd : 20 ≤ d) (h : INV E lo b L μ I) (hi : 0 ≤ i ∧ i + 7 ≤ (L : Int)) : STP E lo b L d i (ex PG E lo d 312 1804 [some (.ref b), some (.ref lo), some (.ref ((lo + 146))), some (.int (J (i)))] [] (mj μ I)) := by
  have hl2 := h.2.2.1.2.2.1
  have hbl := h.2.2.1.1
  have hkb := h.2.2.1.2.1
  have a1 := h.b32 (j := i + 1) (by omega)
  have kO := h.1.o.1
  have kM := h.1.M146.1
  obtain ⟨x, eX⟩ : ∃ x, x = I b (i + 1) := ⟨_, rfl⟩
  rw [← eX] at a1
  have a1' := a1
  unfold i32 at a1'
  have hC := h.1
  have hT := h.2.2.2.2.1
  have hG := h.2.2.2.2.2.1
  obtain ⟨hO, f0, f1, f2, f3, f4, f5, f6, f7, f8, hD⟩ := CO.o hC
  have hb : ∀ I' : Nat → Int → Int, I' (lo + 148) = I (lo + 148) → ∀ j, 0 ≤ j → j ≤ 2 → rws I' (lo + 146) 2 j = 0 ∨ rws I' (lo + 146) 2 j = 1 := fun I' e j z1 z2 => by
    have e' : rws I' (lo + 146) 2 = I (lo + 148) := e
    rw [e']
    rcases hG j.toNat (by omega) with ⟨w1, _⟩ | ⟨w1, _⟩
    · rw [show ((j.toNat : Nat) : Int) = j by omega] at w1
      exact Or.inl w1
    · rw [show ((j.toNat : Nat) : Int) = j by omega] at w1
      exact Or.inr w1
  by_cases c : 0 ≤ x ∧ x ≤ 2 ∧ I (lo + 148) x = 1
  · have ex3 : x.toNat < 3 := by omega
    have exx : ((x.toNat : Nat) : Int) = x := by omega
    have ec : (J x).toNatClampNeg = x.toNat := by
      have := J_cl (a := x) (by omega)
      omega
    have hk48 : rk μ (lo + 48) = some (.inr (12, 3)) := hC.1 (48, 1, 12, 3) (by decide +kernel)
    rcases hG x.toNat ex3 with ⟨w1, _⟩ | ⟨w1, t, q2, q3, q4, q5, q6⟩
    · rw [exx] at w1
      omega
    · obtain ⟨I1, c1, c2, c3⟩ := tcp_sp (E := E) (lo := lo) (d := d - 1) (μ := μ) (I := I) (a := lo + 1) (b := t) (by omega) (TS_CO hC) q4 (by omega) (by omega) q5.2.2.2.2.2.2.2.2
      have n7 : I1 (lo + 147) = I (lo + 147) := c2 _ (by omega)
      have n8 : I1 (lo + 148) = I (lo + 148) := c2 _ (by omega)
      have n0 : rws I1 (lo + 146) 1 = I (lo + 147) := n7
      have n2 : rws I1 (lo + 146) 2 = I (lo + 148) := n8
      have hq := q_again (E := E) (lo := lo) (d := d) (μ := μ) (I := I1) (M := rws I1 (lo + 146)) (x := x) (by omega) hC.M146 (by omega) a1 (hb I1 n8)
      rw [n2] at hq
      rw [show sB I1 (lo + 146) 26 (rws I1 (lo + 146)) = I1 from sB_id, if_pos c, decide_eq_true c, b2i_t] at hq
      obtain ⟨M1, eM1⟩ : ∃ M1, M1 = agM (rws I1 (lo + 146)) x 1152 := ⟨_, rfl⟩
      rw [← eM1] at hq
      have m1 : ∀ j, M1 1 j = if 0 ≤ j ∧ j < 1152 then I (lo + 147) (1152 * (x + 1) + j) else I (lo + 147) j := fun j => by
        rw [eM1]
        unfold agM
        rw [n0]
        by_cases cj : 0 ≤ j ∧ j < 1152
        · rw [if_pos ⟨rfl, cj⟩, if_pos cj]
        · rw [if_neg (fun z => cj z.2), if_neg cj]
      have m2 : M1 2 = I (lo + 148) := by
        funext j
        rw [eM1]
        unfold agM
        rw [if_neg (by omega), n2]
      have kb1 : I1 b = I b := c2 _ (by omega)
      have g7 : sB I1 (lo + 146) 26 M1 (lo + 147) = M1 1 := sB_c (c := 1) (by omega)
      have g8 : sB I1 (lo + 146) 26 M1 (lo + 148) = M1 2 := sB_c (c := 2) (by omega)
      have gI : ∀ y, ¬ (lo + 146 ≤ y ∧ y < lo + 172) → sB I1 (lo + 146) 26 M1 y = I1 y := fun y z => sB_n (by omega)
      have hc : cl E lo d 159 [.ref lo, .int (J x)] (mj μ I) = some (some (.int (J 1)), mj μ I1) := by
        obtain ⟨e, rfl⟩ : ∃ e, d = e + 1 := ⟨d - 1, by omega⟩
        have c1' : cl E lo e 95 [.ref (lo + 1), .ref t] (mj μ I) = some (none, mj μ I1) := c1
        have g2 : rr μ (lo + 48) (J x).toNatClampNeg = some t := by rw [ec]; exact q2
        have rdx := fun (r : Option rRs) => rdR_k (I := I) (x := x) (r := r) hk48 (by decide) (by omega)
        simp (disch := omega) only [b159_0, b159_4, b159_9, b159_20, b159_33, e159, gO_k hO, gR_k f0, gR_k f1, gR_k f2, gR_k f3, gR_k f4, gR_k f5, gR_k f6, gR_k f7, gR_k f8, gO_D hD, gR_D0 hD, gR_D4 hD, gR_D5 hD, gR_D6 hD, gR_D7 hD, gR_D8 hD, al_D1 hD, al_D2 hD, al_D3 hD, al_D4 hD, al_D5 hD, al_D6 hD, rd_D1 hD, rd_D2 hD, rd_D3 hD, rd_D4 hD, rd_D5 hD, rd_D6 hD, rdx, gR_k g2, c1', Jl0, Jl1, Jl2, Jl3, Jl4, Jl5, Jl6, Jl7, Jl8, Jl9, Jl10, Jl11, Jl12, Jl13, Jl14, Jl15, Jl16, Jl17, Jl18, Jl19, Jl20, Jl22, Jl24, Jl28, Jl30, Jl31, Jl32, Jl35, Jl36, Jl37, Jl38, Jl39, Jl40, Jl48, Jl57, Jl59, Jl60, Jl61, Jl63, Jl64, Jl68, Jl69, Jl96, Jl97, Jl98, Jl99, Jl100, Jl122, Jl149, Jl150, Jl165, Jl255, Jl511, Jl512, Jl600, Jl610, Jl940, Jl968, Jl999, Jl1134, Jl1152, Jl2048, Jl4608, Jl9999, Jl99999, Jl100000, Jl147456, Jl12345, Jl1103515245, Jl100000000, Jlm1, Jlm2, J_add, J_sub, J_mul, J_lt, J_le, J_eq, J_ite, J_cl, ri_j, wi_j, b2i_z, b2i_o, b2i_zo, Int.cast_ofNat_Int, Int.natCast_zero, Int.natCast_one, if_true, if_false, ite_self, Int.le_refl, J_bit, J_or, J_neg, J_oN, Int.reduceEq, Int.reduceLT, Int.reduceLE, Int.reduceNeg, Int.reduceAdd, Int.reduceSub, Int.reduceMul, Int.reduceToNat, J_shl, J_shr, V_ite, true_or, or_true, nz_j, J_div, J_rem, Option.bind_some, Option.toList_some, Option.toList_none, List.cons_append, List.nil_append, Jl21, Jl23, Jl25, Jl74, Jl83, Jl288, Jl324, Jl1800, Jlm8]
        repeat (first | rw [if_neg (by omega)] | rw [if_pos (by omega)])
      refine ⟨μ, sB I1 (lo + 146) 26 M1, ?_, INV_T h (fun a z1 z2 z3 => by rw [gI a z3]; exact c2 a (by omega)) (fun j hj => by rw [g7, m1, if_neg (by omega)]) (by rw [g8, m2]) ?_⟩
      · rw [eX] at hc hq
        simp (disch := omega) only [b312_1804, b312_1813, b312_1822, rdA_k hkb, gO_k kO, gO_k kM, hc, kb1, hq, eq_self, Jl0, Jl1, Jl2, Jl3, Jl4, Jl5, Jl6, Jl7, Jl8, Jl9, Jl10, Jl11, Jl12, Jl13, Jl14, Jl15, Jl16, Jl17, Jl18, Jl19, Jl20, Jl22, Jl24, Jl28, Jl30, Jl31, Jl32, Jl35, Jl36, Jl37, Jl38, Jl39, Jl40, Jl48, Jl57, Jl59, Jl60, Jl61, Jl63, Jl64, Jl68, Jl69, Jl96, Jl97, Jl98, Jl99, Jl100, Jl122, Jl149, Jl150, Jl165, Jl255, Jl511, Jl512, Jl600, Jl610, Jl940, Jl968, Jl999, Jl1134, Jl1152, Jl2048, Jl4608, Jl9999, Jl99999, Jl100000, Jl147456, Jl12345, Jl1103515245, Jl100000000, Jlm1, Jlm2, J_add, J_sub, J_mul, J_lt, J_le, J_eq, J_ite, J_cl, ri_j, wi_j, b2i_z, b2i_o, b2i_zo, Int.cast_ofNat_Int, Int.natCast_zero, Int.natCast_one, if_true, if_false, ite_self, Int.le_refl, J_bit, J_or, J_neg, J_oN, Int.reduceEq, Int.reduceLT, Int.reduceLE, Int.reduceNeg, Int.reduceAdd, Int.reduceSub, Int.reduceMul, Int.reduceToNat, J_shl, J_shr, V_ite, true_or, or_true, nz_j, J_div, J_rem, Option.bind_some, Option.toList_some, Option.toList_none, List.cons_append, List.nil_append, Jl21, Jl23, Jl25, Jl74, Jl83, Jl288, Jl324, Jl1800, Jlm8]
      · rw [g7]
        refine TRl_cp (TRl_dst (fun y z1 z2 => gI y (by omega)) c3) (fun j z1 z2 => ?_) q5
        rw [m1, if_pos ⟨z1, z2⟩, exx]
  · have hq := q_again (E := E) (lo := lo) (d := d) (μ := μ) (I := I) (M := rws I (lo + 146)) (x := x) (by omega) hC.M146 (by omega) a1 (hb I rfl)
    have n2 : rws I (lo + 146) 2 = I (lo + 148) := rfl
    rw [n2] at hq
    rw [show (if 0 ≤ x ∧ x ≤ 2 ∧ I (lo + 148) x = 1 then agM (rws I (lo + 146)) x 1152 else rws I (lo + 146)) = rws I (lo + 146) from if_neg c, show sB I (lo + 146) 26 (rws I (lo + 146)) = I from sB_id, decide_eq_false c, b2i_f] at hq
    have hc : cl E lo d 159 [.ref lo, .int (J x)] (mj μ I) = some (some (.int (J 0)), mj μ I) := by
      obtain ⟨d, rfl⟩ : ∃ e, d = e + 1 := ⟨d - 1, by omega⟩
      by_cases c1 : x < 0
      · simp (disch := omega) only [b159_0, b159_18, e159, Jl0, Jl1, Jl2, Jl3, Jl4, Jl5, Jl6, Jl7, Jl8, Jl9, Jl10, Jl11, Jl12, Jl13, Jl14, Jl15, Jl16, Jl17, Jl18, Jl19, Jl20, Jl22, Jl24, Jl28, Jl30, Jl31, Jl32, Jl35, Jl36, Jl37, Jl38, Jl39, Jl40, Jl48, Jl57, Jl59, Jl60, Jl61, Jl63, Jl64, Jl68, Jl69, Jl96, Jl97, Jl98, Jl99, Jl100, Jl122, Jl149, Jl150, Jl165, Jl255, Jl511, Jl512, Jl600, Jl610, Jl940, Jl968, Jl999, Jl1134, Jl1152, Jl2048, Jl4608, Jl9999, Jl99999, Jl100000, Jl147456, Jl12345, Jl1103515245, Jl100000000, Jlm1, Jlm2, J_add, J_sub, J_mul, J_lt, J_le, J_eq, J_ite, J_cl, ri_j, wi_j, b2i_z, b2i_o, b2i_zo, Int.cast_ofNat_Int, Int.natCast_zero, Int.natCast_one, if_true, if_false, ite_self, Int.le_refl, J_bit, J_or, J_neg, J_oN, Int.reduceEq, Int.reduceLT, Int.reduceLE, Int.reduceNeg, Int.reduceAdd, Int.reduceSub, Int.reduceMul, Int.reduceToNat, J_shl, J_shr, V_ite, true_or, or_true, nz_j, J_div, J_rem, Option.bind_some, Option.toList_some, Option.toList_none, List.cons_append, List.nil_append, Jl21, Jl23, Jl25, Jl74, Jl83, Jl288, Jl324, Jl1800, Jlm8]
        repeat (first | rw [if_neg (by omega)] | rw [if_pos (by omega)])
      · by_cases c2 : 3 ≤ x
        · simp (disch := omega) only [b159_0, b159_4, b159_18, e159, Jl0, Jl1, Jl2, Jl3, Jl4, Jl5, Jl6, Jl7, Jl8, Jl9, Jl10, Jl11, Jl12, Jl13, Jl14, Jl15, Jl16, Jl17, Jl18, Jl19, Jl20, Jl22, Jl24, Jl28, Jl30, Jl31, Jl32, Jl35, Jl36, Jl37, Jl38, Jl39, Jl40, Jl48, Jl57, Jl59, Jl60, Jl61, Jl63, Jl64, Jl68, Jl69, Jl96, Jl97, Jl98, Jl99, Jl100, Jl122, Jl149, Jl150, Jl165, Jl255, Jl511, Jl512, Jl600, Jl610, Jl940, Jl968, Jl999, Jl1134, Jl1152, Jl2048, Jl4608, Jl9999, Jl99999, Jl100000, Jl147456, Jl12345, Jl1103515245, Jl100000000, Jlm1, Jlm2, J_add, J_sub, J_mul, J_lt, J_le, J_eq, J_ite, J_cl, ri_j, wi_j, b2i_z, b2i_o, b2i_zo, Int.cast_ofNat_Int, Int.natCast_zero, Int.natCast_one, if_true, if_false, ite_self, Int.le_refl, J_bit, J_or, J_neg, J_oN, Int.reduceEq, Int.reduceLT, Int.reduceLE, Int.reduceNeg, Int.reduceAdd, Int.reduceSub, Int.reduceMul, Int.reduceToNat, J_shl, J_shr, V_ite, true_or, or_true, nz_j, J_div, J_rem, Option.bind_some, Option.toList_some, Option.toList_none, List.cons_append, List.nil_append, Jl21, Jl23, Jl25, Jl74, Jl83, Jl288, Jl324, Jl1800, Jlm8]
          repeat (first | rw [if_neg (by omega)] | rw [if_pos (by omega)])
        · have ex3 : x.toNat < 3 := by omega
          have exx : ((x.toNat : Nat) : Int) = x := by omega
          have ec : (J x).toNatClampNeg = x.toNat := by
            have := J_cl (a := x) (by omega)
            omega
          have hk48 : rk μ (lo + 48) = some (.inr (12, 3)) := hC.1 (48, 1, 12, 3) (by decide +kernel)
          have g2 : rr μ (lo + 48) (J x).toNatClampNeg = none := by
            rw [ec]
            rcases hG x.toNat ex3 with ⟨w1, w2⟩ | ⟨w1, _⟩
            · exact w2
            · rw [exx] at w1
              exact absurd ⟨by omega, by omega, w1⟩ c
          have rdx := fun (r : Option rRs) => rdR_k (I := I) (x := x) (r := r) hk48 (by decide) (by omega)
          simp (disch := omega) only [b159_0, b159_4, b159_9, b159_18, e159, gO_k hO, gR_k f0, gR_k f1, gR_k f2, gR_k f3, gR_k f4, gR_k f5, gR_k f6, gR_k f7, gR_k f8, gO_D hD, gR_D0 hD, gR_D4 hD, gR_D5 hD, gR_D6 hD, gR_D7 hD, gR_D8 hD, al_D1 hD, al_D2 hD, al_D3 hD, al_D4 hD, al_D5 hD, al_D6 hD, rd_D1 hD, rd_D2 hD, rd_D3 hD, rd_D4 hD, rd_D5 hD, rd_D6 hD, rdx, gR_none g2, b159_15n, Jl0, Jl1, Jl2, Jl3, Jl4, Jl5, Jl6, Jl7, Jl8, Jl9, Jl10, Jl11, Jl12, Jl13, Jl14, Jl15, Jl16, Jl17, Jl18, Jl19, Jl20, Jl22, Jl24, Jl28, Jl30, Jl31, Jl32, Jl35, Jl36, Jl37, Jl38, Jl39, Jl40, Jl48, Jl57, Jl59, Jl60, Jl61, Jl63, Jl64, Jl68, Jl69, Jl96, Jl97, Jl98, Jl99, Jl100, Jl122, Jl149, Jl150, Jl165, Jl255, Jl511, Jl512, Jl600, Jl610, Jl940, Jl968, Jl999, Jl1134, Jl1152, Jl2048, Jl4608, Jl9999, Jl99999, Jl100000, Jl147456, Jl12345, Jl1103515245, Jl100000000, Jlm1, Jlm2, J_add, J_sub, J_mul, J_lt, J_le, J_eq, J_ite, J_cl, ri_j, wi_j, b2i_z, b2i_o, b2i_zo, Int.cast_ofNat_Int, Int.natCast_zero, Int.natCast_one, if_true, if_false, ite_self, Int.le_refl, J_bit, J_or, J_neg, J_oN, Int.reduceEq, Int.reduceLT, Int.reduceLE, Int.reduceNeg, Int.reduceAdd, Int.reduceSub, Int.reduceMul, Int.reduceToNat, J_shl, J_shr, V_ite, true_or, or_true, nz_j, J_div, J_rem, Option.bind_some, Option.toList_some, Option.toList_none, List.cons_append, List.nil_append, Jl21, Jl23, Jl25, Jl74, Jl83, Jl288, Jl324, Jl1800, Jlm8]
          repeat (first | rw [if_neg (by omega)] | rw [if_pos (by omega)])
    refine ⟨μ, I, ?_, h⟩
    rw [eX] at hc hq
    simp (disch := omega) only [b312_1804, b312_1813, b312_1822, rdA_k hkb, gO_k kO, gO_k kM, hc, hq, eq_self, Jl0, Jl1, Jl2, Jl3, Jl4, Jl5, Jl6, Jl7, Jl8, Jl9, Jl10, Jl11, Jl12, Jl13, Jl14, Jl15, Jl16, Jl17, Jl18, Jl19, Jl20, Jl22, Jl24, Jl28, Jl30, Jl31, Jl32, Jl35, Jl36, Jl37, Jl38, Jl39, Jl40, Jl48, Jl57, Jl59, Jl60, Jl61, Jl63, Jl64, Jl68, Jl69, Jl96, Jl97, Jl98, Jl99, Jl100, Jl122, Jl149, Jl150, Jl165, Jl255, Jl511, Jl512, Jl600, Jl610, Jl940, Jl968, Jl999, Jl1134, Jl1152, Jl2048, Jl4608, Jl9999, Jl99999, Jl100000, Jl147456, Jl12345, Jl1103515245, Jl100000000, Jlm1, Jlm2, J_add, J_sub, J_mul, J_lt, J_le, J_eq, J_ite, J_cl, ri_j, wi_j, b2i_z, b2i_o, b2i_zo, Int.cast_ofNat_Int, Int.natCast_zero, Int.natCast_one, if_true, if_false, ite_self, Int.le_refl, J_bit, J_or, J_neg, J_oN, Int.reduceEq, Int.reduceLT, Int.reduceLE, Int.reduceNeg, Int.reduceAdd, Int.reduceSub, Int.reduceMul, Int.reduceToNat, J_shl, J_shr, V_ite, true_or, or_true, nz_j, J_div, J_rem, Option.bind_some, Option.toList_some, Option.toList_none, List.cons_append, List.nil_append, Jl21, Jl23, Jl25, Jl74, Jl83, Jl288, Jl324, Jl1800, Jlm8]
end LAW
