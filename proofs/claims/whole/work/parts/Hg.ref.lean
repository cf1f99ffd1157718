/-! THE REFERENCE'S ANSWERS: a trip -/
theorem trM_s {w : Int → Int → Int} {t : Int → Int} {s b v n : Int} (h : 0 ≤ n) : trM w t s b v (n + 1) = if tb s n = true then mnI (trM w t s b v n) (t (s * 8 + n) + w n b) else trM w t s b v n := fo_s _ _ h
theorem tpA_s {S : Nat → Int → Int} {D : Int → Int → Int} {fr i : Int} (h : 0 ≤ i) : tpA S D fr (i + 1) = tpS S D (i + 1) (tpA S D fr i) := fo_s _ _ h
/-- what a trip is -/
def tripQ (S : Nat → Int → Int) (fr : Int) : Int := if tpL (tpA S (fwQ S 100000000 (S 0 0)) fr (p2 (S 0 0) - 2)) (p2 (S 0 0) - 1) (S 0 0) < 100000000 then tpL (tpA S (fwQ S 100000000 (S 0 0)) fr (p2 (S 0 0) - 2)) (p2 (S 0 0) - 1) (S 0 0) else -1
theorem tp_last {S : Nat → Int → Int} (hV : SV S) {D : Int → Int → Int} {A : Int → Int} : tpS S D (p2 (S 0 0) - 1) A = A := by
  have v := hV.1
  funext i
  unfold tpS
  have : tpT S (p2 (S 0 0) - 1) i = false := by
    unfold tpT
    rw [decide_eq_false]
    rintro ⟨h1, h2, h3, h4⟩
    have : tb (p2 (S 0 0) - 1) (i % 8) = true := by
      unfold tb p2
      rw [show (((2 ^ (S 0 0).toNat : Nat) : Int) - 1).toNat = 2 ^ (S 0 0).toNat - 1 by omega, Nat.testBit_two_pow_sub_one, decide_eq_true_eq]
      omega
    rw [this] at h3
    cases h3
  rw [this]
  rfl
section REF
variable {E : (Nat → Value) × (Nat → Nat)} {lo d m : Nat} {μ : rM} {I M S L R C T : Nat → Int → Int} {k u x y z h w s r n c j : Int} {b : Bool}
theorem q_trip (hd : 4 ≤ d) (hM : ShM μ m) (hl : lo ≤ m) (hS : TSt M x S) (hx : i32 x ∧ i32 y) : QR μ I m M (if (0 ≤ x ∧ x < M 1 0) ∧ (0 ≤ y ∧ y < S 0 0) then tripQ S y else -1) (cl E lo d 277 [.ref m, .int (J (x)), .int (J (y))] (mj μ (sB I m 26 M))) := by
  obtain ⟨d, rfl⟩ : ∃ e, d = e + 1 := ⟨d - 1, by omega⟩
  unfold i32 at hx
  obtain ⟨M1, e1, a1, a2, a3⟩ := str_sp (E := E) (lo := lo) (d := d) (I := I) (M := M) (S := S) (x := x) (by omega) hM hl hS.1 hx.1 hS.2
  have m1 : M1 1 = M 1 := a1 1 (by decide) (by decide)
  have m2 : M1 2 = M 2 := a1 2 (by decide) (by decide)
  by_cases p1 : 0 ≤ x ∧ x < M 1 0
  · rw [decide_eq_true p1] at e1
    obtain ⟨hR, hB, h12⟩ := a3 p1.1 p1.2
    have hV := (hS.2 p1.1 p1.2).1.1
    have v := hV.1
    by_cases py : 0 ≤ y ∧ y < S 0 0
    · rw [if_pos ⟨p1, py⟩]
      have pp := p2_256 hV
      obtain ⟨M2, e2, b1, b2⟩ := wys_sp (E := E) (lo := lo) (d := d) (I := I) (by omega) hM hl hR hV
      have hRf : ∀ M', (∀ c, c ≠ 25 → M' c = M2 c) → RS M' S := fun M' h => hR.fr (by rw [h 0 (by decide), b1 0 (by decide)]) (by rw [h 0 (by decide), b1 0 (by decide)]) (by rw [h 1 (by decide), b1 1 (by decide)]) (by rw [h 4 (by decide), b1 4 (by decide)]) (by rw [h 5 (by decide), b1 5 (by decide)]) (by rw [h 7 (by decide), b1 7 (by decide)]) (by rw [h 8 (by decide), b1 8 (by decide)])
      have hnf : ∀ M', (∀ c, c ≠ 25 → M' c = M2 c) → cl E lo d 204 [.ref m] (mj μ (sB I m 26 M')) = some (some (.int (J (S 0 0))), mj μ (sB I m 26 M')) := fun M' h => nH_sp (by omega) hM (hRf M' h)
      have hif : ∀ M', (∀ c, c ≠ 25 → M' c = M2 c) → ∀ q, 0 ≤ q ∧ q < 8 → cl E lo d 206 [.ref m, .int (J (q))] (mj μ (sB I m 26 M')) = some (some (.int (J (b2i (decide (0 ≤ q ∧ q < S 0 0))))), mj μ (sB I m 26 M')) := fun M' h q hq => iH_sp (by omega) hM (hRf M' h) hV (by omega)
      -- all far
      obtain ⟨M3, e3, c1, c2⟩ := loop (fun i M' => ex PG E lo d 277 24 [some (.ref m), some (.int (J (x))), some (.int (J (y))), some (.int (J (i))), none, none, none, none, none] [] (mj μ (sB I m 26 M'))) (fun i M' => (∀ c, c ≠ 25 → M' c = M2 c) ∧ ∀ k, 0 ≤ k → k < i → M' 25 k = 99999) (a := 0) (n := 2048) (fun i M' f1 f2 hP => by
        obtain ⟨c1, c2⟩ := hP
        refine ⟨u3 M' 25 i 99999, ?_, fun c q => by rw [u3_c q, c1 c q], fun k g1 g2 => ?_⟩
        · rw [b277_24]
          simp (disch := omega) only [b277_31, b277_40, gO_M hM, gR_M0 hM, gR_M1 hM, gR_M11 hM, gR_M13 hM, gR_M14 hM, gR_M15 hM, gR_M16 hM, gR_M17 hM, gR_M22 hM, gR_M32 hM, gR_M33 hM, gR_M34 hM, gR_M35 hM, gR_M36 hM, gR_M37 hM, gR_M38 hM, gR_M41 hM, gR_M42 hM, gR_M43 hM, gR_M45 hM, gR_M46 hM, gR_M47 hM, gR_M50 hM, gR_M51 hM, gR_M52 hM, al_M1 hM, al_M2 hM, al_M3 hM, al_M4 hM, al_M5 hM, al_M6 hM, al_M7 hM, al_M8 hM, al_M9 hM, al_M10 hM, al_M11 hM, al_M12 hM, al_M13 hM, al_M14 hM, al_M15 hM, al_M16 hM, al_M17 hM, al_M18 hM, al_M19 hM, al_M20 hM, al_M21 hM, al_M22 hM, al_M23 hM, al_M24 hM, al_M25 hM, rd_M1 hM, rd_M2 hM, rd_M3 hM, rd_M4 hM, rd_M5 hM, rd_M6 hM, rd_M7 hM, rd_M8 hM, rd_M9 hM, rd_M10 hM, rd_M11 hM, rd_M12 hM, rd_M13 hM, rd_M14 hM, rd_M15 hM, rd_M16 hM, rd_M17 hM, rd_M18 hM, rd_M19 hM, rd_M20 hM, rd_M21 hM, rd_M22 hM, rd_M23 hM, rd_M24 hM, rd_M25 hM, gP_M hM hl, wr_M1 hM hl, wr_M2 hM hl, wr_M3 hM hl, wr_M4 hM hl, wr_M5 hM hl, wr_M6 hM hl, wr_M7 hM hl, wr_M8 hM hl, wr_M9 hM hl, wr_M10 hM hl, wr_M11 hM hl, wr_M12 hM hl, wr_M13 hM hl, wr_M14 hM hl, wr_M15 hM hl, wr_M16 hM hl, wr_M17 hM hl, wr_M18 hM hl, wr_M19 hM hl, wr_M20 hM hl, wr_M21 hM hl, wr_M22 hM hl, wr_M23 hM hl, wr_M24 hM hl, wr_M25 hM hl, sB_0, sB_c, u3_sB0, u3_sB, u3_s, u3_n, Nat.reduceLT, Jl0, Jl1, Jl2, Jl3, Jl4, Jl5, Jl6, Jl7, Jl8, Jl9, Jl10, Jl11, Jl12, Jl13, Jl14, Jl15, Jl16, Jl17, Jl18, Jl19, Jl20, Jl22, Jl24, Jl28, Jl30, Jl31, Jl32, Jl35, Jl36, Jl37, Jl38, Jl39, Jl40, Jl48, Jl57, Jl59, Jl60, Jl61, Jl63, Jl64, Jl68, Jl69, Jl96, Jl97, Jl98, Jl99, Jl100, Jl122, Jl149, Jl150, Jl165, Jl255, Jl511, Jl512, Jl600, Jl610, Jl940, Jl968, Jl999, Jl1134, Jl1152, Jl2048, Jl4608, Jl9999, Jl99999, Jl100000, Jl147456, Jl12345, Jl1103515245, Jl100000000, Jlm1, Jlm2, J_add, J_sub, J_mul, J_lt, J_le, J_eq, J_ite, J_cl, ri_j, wi_j, b2i_z, b2i_o, b2i_zo, Int.cast_ofNat_Int, Int.natCast_zero, Int.natCast_one, if_true, if_false, ite_self, Int.le_refl, J_bit, J_or, J_neg, J_oN, Int.reduceEq, Int.reduceLT, Int.reduceLE, Int.reduceNeg, Int.reduceAdd, Int.reduceSub, Int.reduceMul, Int.reduceToNat, J_shl, J_shr, V_ite, true_or, or_true, nz_j, J_div, J_rem, Option.bind_some, Option.toList_some, Option.toList_none, List.cons_append, List.nil_append, Jl21, Jl23, Jl25, Jl74, Jl83, Jl288, Jl324, Jl1800, Jlm8]
          repeat (first | rw [if_neg (by omega)] | rw [if_pos (by omega)])
        · have := c2 k g1
          unfold u3
          grind) (by omega) M2 ⟨fun c _ => rfl, fun k g1 g2 => by omega⟩
      have py2 : 0 < p2 y ∧ p2 y < p2 (S 0 0) := by
        have h1 := p2_0 y
        have h2 := p2_le (k := y + 1) (m := S 0 0) (by omega)
        rw [p2_s py.1] at h2
        omega
      generalize hM4 : u3 M3 25 (p2 y * 8 + y) 0 = M4
      have d1 : ∀ c, c ≠ 25 → M4 c = M2 c := fun c q => by rw [← hM4, u3_c q, c1 c q]
      have hrel0 : tAll S (M4 25) (tpA S (fwQ S 100000000 (S 0 0)) y 0) := by
        intro s' h g1 g2 g3 g4
        have ev : M4 25 (s' * 8 + h) = if s' * 8 + h = p2 y * 8 + y then 0 else 99999 := by
          rw [← hM4]
          by_cases ce : s' * 8 + h = p2 y * 8 + y
          · rw [if_pos ce, ce, u3_s]
          · rw [if_neg ce, u3_n (by omega), c2 _ (by omega) (by omega)]
        have ea : tpA S (fwQ S 100000000 (S 0 0)) y 0 (s' * 8 + h) = if s' * 8 + h = p2 y * 8 + y then 0 else 100000000 := rfl
        unfold tRel
        rw [ev, ea]
        have bb := bc_b s'
        by_cases ce : s' * 8 + h = p2 y * 8 + y
        · rw [if_pos ce, if_pos ce]
          refine ⟨Or.inr ⟨rfl, by omega, by omega⟩, fun _ => ?_⟩
          have es : s' = p2 y := by omega
          have eh : h = y := by omega
          rw [es, eh, tb_p2 py.1 py.1, decide_eq_true rfl]
        · rw [if_neg ce, if_neg ce]
          exact ⟨Or.inl ⟨rfl, by omega, by omega⟩, fun q => by omega⟩
      -- the sets
      obtain ⟨⟨M5, q5, q6, q7, q8⟩, e5, f1', f2'⟩ := loop (fun i (t : (Nat → Int → Int) × Option Value × Option Value × Option Value × Option Value) => ex PG E lo d 277 72 [some (.ref m), some (.int (J (x))), some (.int (J (y))), some (.int (J ((p2 (S 0 0) - 1)))), some (.int (J ((i + 1)))), t.2.1, t.2.2.1, t.2.2.2.1, t.2.2.2.2] [] (mj μ (sB I m 26 t.1))) (fun i t => (∀ c, c ≠ 25 → t.1 c = M2 c) ∧ tAll S (t.1 25) (tpA S (fwQ S 100000000 (S 0 0)) y i)) (a := 0) (n := p2 (S 0 0) - 1) (fun i t f1 f2 hP => by
        obtain ⟨Ma, q5, q6, q7, q8⟩ := t
        dsimp only at hP ⊢
        obtain ⟨g1, g2⟩ := hP
        have hs : 0 ≤ i + 1 ∧ i + 1 < p2 (S 0 0) := by omega
        generalize hss : i + 1 = s at *
        -- what stands at a place behind the first c steps
        obtain ⟨⟨Mb, r6, r7, r8⟩, e6, h1, h2, h3⟩ := loop (fun c (t : (Nat → Int → Int) × Option Value × Option Value × Option Value) => ex PG E lo d 277 81 [some (.ref m), some (.int (J (x))), some (.int (J (y))), some (.int (J ((p2 (S 0 0) - 1)))), some (.int (J (s))), some (.int (J (c))), t.2.1, t.2.2.1, t.2.2.2] [] (mj μ (sB I m 26 t.1))) (fun c t => (∀ a, a ≠ 25 → t.1 a = M2 a) ∧ (∀ j, tpT S s j = true → t.1 25 j = trM (fwQ S 9999 (S 0 0)) (Ma 25) s (j % 8) (Ma 25 j) (if j % 8 < c % 8 then c / 8 + 1 else c / 8)) ∧ ∀ j, tpT S s j = false → t.1 25 j = Ma 25 j) (a := 0) (n := 64) (fun c t k1 k2 hP => by
          obtain ⟨Mb, r6, r7, r8⟩ := t
          dsimp only at hP ⊢
          obtain ⟨h1, h2, h3⟩ := hP
          have er : c - c / 8 * 8 = c % 8 := by omega
          have hself : ∀ a, 0 ≤ a → a < 8 → tpT S s (s * 8 + a) = false := by
            intro a q1 q2
            unfold tpT
            rw [show (s * 8 + a) % 8 = a by omega, show (s * 8 + a) / 8 = s by omega, decide_eq_false]
            rintro ⟨_, _, t3, t4⟩
            have : tb s a = tb (so s (p2 a)) a := by conv => lhs; rw [t4]
            rw [tb_so _ _ _ hs.1 (by have := p2_0 a; omega), tb_p2 q1 q1, t3, decide_eq_true rfl] at this
            cases this
          -- where nothing is done
          have idle : (tb s (c / 8) = false ∨ tb s (c % 8) = true ∨ S 0 0 ≤ c % 8) → ∀ j, tpT S s j = true → Mb 25 j = trM (fwQ S 9999 (S 0 0)) (Ma 25) s (j % 8) (Ma 25 j) (if j % 8 < (c + 1) % 8 then (c + 1) / 8 + 1 else (c + 1) / 8) := by
            intro hc j hj
            rw [h2 j hj]
            have hj' := hj
            unfold tpT at hj'
            rw [decide_eq_true_eq] at hj'
            by_cases cb : j % 8 = c % 8
            · rcases hc with hc | hc | hc
              · have e1 : (if j % 8 < c % 8 then c / 8 + 1 else c / 8) = c / 8 := if_neg (by omega)
                have e2 : (if j % 8 < (c + 1) % 8 then (c + 1) / 8 + 1 else (c + 1) / 8) = c / 8 + 1 := by split <;> omega
                rw [e1, e2, trM_s (by omega), hc]
                simp
              · rw [← cb, hj'.2.2.1] at hc
                cases hc
              · omega
            · have e1 : (if j % 8 < c % 8 then c / 8 + 1 else c / 8) = (if j % 8 < (c + 1) % 8 then (c + 1) / 8 + 1 else (c + 1) / 8) := by split <;> split <;> omega
              rw [e1]
          have hin1 := in_sp (E := E) (lo := lo) (d := d) (μ := mj μ (sB I m 26 Mb)) (s := s) (k := c / 8) (by omega) (by omega)
          have hin2 := in_sp (E := E) (lo := lo) (d := d) (μ := mj μ (sB I m 26 Mb)) (s := s) (k := c % 8) (by omega) (by omega)
          have hih := hif Mb h1 (c % 8) (by omega)
          cases t1 : tb s (c / 8)
          · rw [t1] at hin1
            refine ⟨(Mb, some (.int (J (c / 8))), some (.int (J (c % 8))), r8), ?_, h1, idle (Or.inl t1), h3⟩
            rw [b277_81]
            simp (disch := omega) only [b277_88, b277_109, b277_193, gO_M hM, gR_M0 hM, gR_M1 hM, gR_M11 hM, gR_M13 hM, gR_M14 hM, gR_M15 hM, gR_M16 hM, gR_M17 hM, gR_M22 hM, gR_M32 hM, gR_M33 hM, gR_M34 hM, gR_M35 hM, gR_M36 hM, gR_M37 hM, gR_M38 hM, gR_M41 hM, gR_M42 hM, gR_M43 hM, gR_M45 hM, gR_M46 hM, gR_M47 hM, gR_M50 hM, gR_M51 hM, gR_M52 hM, al_M1 hM, al_M2 hM, al_M3 hM, al_M4 hM, al_M5 hM, al_M6 hM, al_M7 hM, al_M8 hM, al_M9 hM, al_M10 hM, al_M11 hM, al_M12 hM, al_M13 hM, al_M14 hM, al_M15 hM, al_M16 hM, al_M17 hM, al_M18 hM, al_M19 hM, al_M20 hM, al_M21 hM, al_M22 hM, al_M23 hM, al_M24 hM, al_M25 hM, rd_M1 hM, rd_M2 hM, rd_M3 hM, rd_M4 hM, rd_M5 hM, rd_M6 hM, rd_M7 hM, rd_M8 hM, rd_M9 hM, rd_M10 hM, rd_M11 hM, rd_M12 hM, rd_M13 hM, rd_M14 hM, rd_M15 hM, rd_M16 hM, rd_M17 hM, rd_M18 hM, rd_M19 hM, rd_M20 hM, rd_M21 hM, rd_M22 hM, rd_M23 hM, rd_M24 hM, rd_M25 hM, er, hin1, Jl0, Jl1, Jl2, Jl3, Jl4, Jl5, Jl6, Jl7, Jl8, Jl9, Jl10, Jl11, Jl12, Jl13, Jl14, Jl15, Jl16, Jl17, Jl18, Jl19, Jl20, Jl22, Jl24, Jl28, Jl30, Jl31, Jl32, Jl35, Jl36, Jl37, Jl38, Jl39, Jl40, Jl48, Jl57, Jl59, Jl60, Jl61, Jl63, Jl64, Jl68, Jl69, Jl96, Jl97, Jl98, Jl99, Jl100, Jl122, Jl149, Jl150, Jl165, Jl255, Jl511, Jl512, Jl600, Jl610, Jl940, Jl968, Jl999, Jl1134, Jl1152, Jl2048, Jl4608, Jl9999, Jl99999, Jl100000, Jl147456, Jl12345, Jl1103515245, Jl100000000, Jlm1, Jlm2, J_add, J_sub, J_mul, J_lt, J_le, J_eq, J_ite, J_cl, ri_j, wi_j, b2i_z, b2i_o, b2i_zo, Int.cast_ofNat_Int, Int.natCast_zero, Int.natCast_one, if_true, if_false, ite_self, Int.le_refl, J_bit, J_or, J_neg, J_oN, Int.reduceEq, Int.reduceLT, Int.reduceLE, Int.reduceNeg, Int.reduceAdd, Int.reduceSub, Int.reduceMul, Int.reduceToNat, J_shl, J_shr, V_ite, true_or, or_true, nz_j, J_div, J_rem, Option.bind_some, Option.toList_some, Option.toList_none, List.cons_append, List.nil_append, Jl21, Jl23, Jl25, Jl74, Jl83, Jl288, Jl324, Jl1800, Jlm8]
            repeat (first | rw [if_neg (by omega)] | rw [if_pos (by omega)])
          · rw [t1] at hin1
            cases t2 : tb s (c % 8)
            · rw [t2] at hin2
              by_cases t3 : c % 8 < S 0 0
              · have ca : c / 8 < S 0 0 := by
                  by_cases q : c / 8 < S 0 0
                  · exact q
                  · rw [tb_lt hs (by omega) (by omega)] at t1; cases t1
                have t3' : 0 ≤ c % 8 ∧ c % 8 < S 0 0 := by omega
                have pb := p2_0 (c % 8)
                have pbl := p2_le (k := c % 8 + 1) (m := S 0 0) (by omega)
                rw [p2_s (by omega)] at pbl
                have sob := so_p2 (s := s) (t := p2 (c % 8)) (k := S 0 0) hs (by omega)
                generalize hto : so s (p2 (c % 8)) * 8 + c % 8 = to at *
                have tto : tpT S s to = true := by
                  unfold tpT
                  rw [← hto, show (so s (p2 (c % 8)) * 8 + c % 8) % 8 = c % 8 by omega, show (so s (p2 (c % 8)) * 8 + c % 8) / 8 = so s (p2 (c % 8)) by omega, decide_eq_true_eq]
                  exact ⟨by omega, t3, t2, rfl⟩
                have to8 : to % 8 = c % 8 := by omega
                have v1 := h2 to tto
                rw [to8, if_neg (show ¬ c % 8 < c % 8 by omega)] at v1
                have v2 := h3 _ (hself (c / 8) (by omega) (by omega))
                have v3 : Mb 24 (c / 8 * 8 + c % 8) = fwQ S 9999 (S 0 0) (c / 8) (c % 8) := by rw [h1 24 (by decide)]; exact b2 _ _ (by omega) ca t3'.1 t3
                have es := trM_s (w := fwQ S 9999 (S 0 0)) (t := Ma 25) (s := s) (b := c % 8) (v := Ma 25 to) (n := c / 8) (by omega)
                rw [t1, if_pos rfl] at es
                -- bounds
                have rto := (g2 (so s (p2 (c % 8))) (c % 8) sob.1 sob.2 t3'.1 t3).1
                have rfr := (g2 s (c / 8) hs.1 hs.2 (by omega) ca).1
                have bb1 := bc_b s
                have bb2 := bc_b (so s (p2 (c % 8)))
                unfold tRel at rto rfr
                rw [hto] at rto
                have trb : 0 ≤ trM (fwQ S 9999 (S 0 0)) (Ma 25) s (c % 8) (Ma 25 to) (c / 8) ∧ trM (fwQ S 9999 (S 0 0)) (Ma 25) s (c % 8) (Ma 25 to) (c / 8) ≤ 200000 := by
                  unfold trM
                  refine fo_ind (fun i x => 0 ≤ x ∧ x ≤ 200000) _ _ (by omega) (by omega) (fun a x q1 q2 q3 => ?_)
                  by_cases ta : tb s a = true
                  · rw [if_pos ta]
                    have ra := (g2 s a hs.1 hs.2 q1 (by omega)).1
                    have wn := (fw_b hV (inf := 9999) (by omega) (n := S 0 0) (h := a) (k := c % 8) (by omega) (by omega) (by omega)).1
                    unfold tRel at ra
                    unfold mnI
                    split <;> omega
                  · rw [if_neg ta]; exact q3
                have wn := (fw_b hV (inf := 9999) (by omega) (n := S 0 0) (h := c / 8) (k := c % 8) (by omega) (by omega) (by omega)).1
                unfold mnI at es
                have rv : ∀ j, u3 Mb 25 to (trM (fwQ S 9999 (S 0 0)) (Ma 25) s (c % 8) (Ma 25 to) (c / 8 + 1)) 25 j = if j = to then trM (fwQ S 9999 (S 0 0)) (Ma 25) s (c % 8) (Ma 25 to) (c / 8 + 1) else Mb 25 j := fun j => by simp [u3]
                refine ⟨(u3 Mb 25 to (trM (fwQ S 9999 (S 0 0)) (Ma 25) s (c % 8) (Ma 25 to) (c / 8 + 1)), some (.int (J (c / 8))), some (.int (J (c % 8))), some (.int (J to))), ?_, fun a q => by dsimp only; rw [u3_c q, h1 a q], fun j hj => ?_, fun j hj => ?_⟩
                · dsimp only
                  rw [b277_81, es, ← v1]
                  generalize trM (fwQ S 9999 (S 0 0)) (Ma 25) s (c % 8) (Ma 25 to) (c / 8) = tv at *
                  rw [← v1] at trb
                  rw [← v2] at rfr ⊢
                  rw [← v3] at wn ⊢
                  simp (disch := omega) only [b277_88, b277_109, b277_112, b277_119, b277_122, b277_128, b277_134, b277_192, b277_193, gO_M hM, gR_M0 hM, gR_M1 hM, gR_M11 hM, gR_M13 hM, gR_M14 hM, gR_M15 hM, gR_M16 hM, gR_M17 hM, gR_M22 hM, gR_M32 hM, gR_M33 hM, gR_M34 hM, gR_M35 hM, gR_M36 hM, gR_M37 hM, gR_M38 hM, gR_M41 hM, gR_M42 hM, gR_M43 hM, gR_M45 hM, gR_M46 hM, gR_M47 hM, gR_M50 hM, gR_M51 hM, gR_M52 hM, al_M1 hM, al_M2 hM, al_M3 hM, al_M4 hM, al_M5 hM, al_M6 hM, al_M7 hM, al_M8 hM, al_M9 hM, al_M10 hM, al_M11 hM, al_M12 hM, al_M13 hM, al_M14 hM, al_M15 hM, al_M16 hM, al_M17 hM, al_M18 hM, al_M19 hM, al_M20 hM, al_M21 hM, al_M22 hM, al_M23 hM, al_M24 hM, al_M25 hM, rd_M1 hM, rd_M2 hM, rd_M3 hM, rd_M4 hM, rd_M5 hM, rd_M6 hM, rd_M7 hM, rd_M8 hM, rd_M9 hM, rd_M10 hM, rd_M11 hM, rd_M12 hM, rd_M13 hM, rd_M14 hM, rd_M15 hM, rd_M16 hM, rd_M17 hM, rd_M18 hM, rd_M19 hM, rd_M20 hM, rd_M21 hM, rd_M22 hM, rd_M23 hM, rd_M24 hM, rd_M25 hM, gP_M hM hl, wr_M1 hM hl, wr_M2 hM hl, wr_M3 hM hl, wr_M4 hM hl, wr_M5 hM hl, wr_M6 hM hl, wr_M7 hM hl, wr_M8 hM hl, wr_M9 hM hl, wr_M10 hM hl, wr_M11 hM hl, wr_M12 hM hl, wr_M13 hM hl, wr_M14 hM hl, wr_M15 hM hl, wr_M16 hM hl, wr_M17 hM hl, wr_M18 hM hl, wr_M19 hM hl, wr_M20 hM hl, wr_M21 hM hl, wr_M22 hM hl, wr_M23 hM hl, wr_M24 hM hl, wr_M25 hM hl, sB_0, sB_c, u3_sB0, u3_sB, u3_s, u3_n, Nat.reduceLT, er, hin1, hin2, hih, t3', Int.mul_comm 8, hto, le_sp, and_self, decide_true, Bool.true_eq_false, b2i_t, Jl0, Jl1, Jl2, Jl3, Jl4, Jl5, Jl6, Jl7, Jl8, Jl9, Jl10, Jl11, Jl12, Jl13, Jl14, Jl15, Jl16, Jl17, Jl18, Jl19, Jl20, Jl22, Jl24, Jl28, Jl30, Jl31, Jl32, Jl35, Jl36, Jl37, Jl38, Jl39, Jl40, Jl48, Jl57, Jl59, Jl60, Jl61, Jl63, Jl64, Jl68, Jl69, Jl96, Jl97, Jl98, Jl99, Jl100, Jl122, Jl149, Jl150, Jl165, Jl255, Jl511, Jl512, Jl600, Jl610, Jl940, Jl968, Jl999, Jl1134, Jl1152, Jl2048, Jl4608, Jl9999, Jl99999, Jl100000, Jl147456, Jl12345, Jl1103515245, Jl100000000, Jlm1, Jlm2, J_add, J_sub, J_mul, J_lt, J_le, J_eq, J_ite, J_cl, ri_j, wi_j, b2i_z, b2i_o, b2i_zo, Int.cast_ofNat_Int, Int.natCast_zero, Int.natCast_one, if_true, if_false, ite_self, Int.le_refl, J_bit, J_or, J_neg, J_oN, Int.reduceEq, Int.reduceLT, Int.reduceLE, Int.reduceNeg, Int.reduceAdd, Int.reduceSub, Int.reduceMul, Int.reduceToNat, J_shl, J_shr, V_ite, true_or, or_true, nz_j, J_div, J_rem, Option.bind_some, Option.toList_some, Option.toList_none, List.cons_append, List.nil_append, Jl21, Jl23, Jl25, Jl74, Jl83, Jl288, Jl324, Jl1800, Jlm8]
                  repeat (first | rw [if_neg (by omega)] | rw [if_pos (by omega)])
                · dsimp only
                  rw [rv]
                  have hj' := hj
                  unfold tpT at hj'
                  rw [decide_eq_true_eq] at hj'
                  by_cases cj : j = to
                  · rw [if_pos cj, cj, to8]
                    have e2 : (if c % 8 < (c + 1) % 8 then (c + 1) / 8 + 1 else (c + 1) / 8) = c / 8 + 1 := by split <;> omega
                    rw [e2]
                  · rw [if_neg cj, h2 j hj]
                    have cne : j % 8 ≠ c % 8 := by
                      intro q
                      apply cj
                      rw [q] at hj'
                      omega
                    have e1 : (if j % 8 < c % 8 then c / 8 + 1 else c / 8) = (if j % 8 < (c + 1) % 8 then (c + 1) / 8 + 1 else (c + 1) / 8) := by split <;> split <;> omega
                    rw [e1]
                · dsimp only
                  rw [rv, if_neg (fun q => by rw [q, tto] at hj; cases hj)]
                  exact h3 j hj
              · have t3' : ¬ (0 ≤ c % 8 ∧ c % 8 < S 0 0) := by omega
                refine ⟨(Mb, some (.int (J (c / 8))), some (.int (J (c % 8))), r8), ?_, h1, idle (Or.inr (Or.inr (by omega))), h3⟩
                rw [b277_81]
                simp (disch := omega) only [b277_88, b277_109, b277_112, b277_119, b277_122, b277_128, b277_131, b277_193, gO_M hM, gR_M0 hM, gR_M1 hM, gR_M11 hM, gR_M13 hM, gR_M14 hM, gR_M15 hM, gR_M16 hM, gR_M17 hM, gR_M22 hM, gR_M32 hM, gR_M33 hM, gR_M34 hM, gR_M35 hM, gR_M36 hM, gR_M37 hM, gR_M38 hM, gR_M41 hM, gR_M42 hM, gR_M43 hM, gR_M45 hM, gR_M46 hM, gR_M47 hM, gR_M50 hM, gR_M51 hM, gR_M52 hM, al_M1 hM, al_M2 hM, al_M3 hM, al_M4 hM, al_M5 hM, al_M6 hM, al_M7 hM, al_M8 hM, al_M9 hM, al_M10 hM, al_M11 hM, al_M12 hM, al_M13 hM, al_M14 hM, al_M15 hM, al_M16 hM, al_M17 hM, al_M18 hM, al_M19 hM, al_M20 hM, al_M21 hM, al_M22 hM, al_M23 hM, al_M24 hM, al_M25 hM, rd_M1 hM, rd_M2 hM, rd_M3 hM, rd_M4 hM, rd_M5 hM, rd_M6 hM, rd_M7 hM, rd_M8 hM, rd_M9 hM, rd_M10 hM, rd_M11 hM, rd_M12 hM, rd_M13 hM, rd_M14 hM, rd_M15 hM, rd_M16 hM, rd_M17 hM, rd_M18 hM, rd_M19 hM, rd_M20 hM, rd_M21 hM, rd_M22 hM, rd_M23 hM, rd_M24 hM, rd_M25 hM, er, hin1, hin2, hih, t3', decide_false, Bool.true_eq_false, b2i_f, Jl0, Jl1, Jl2, Jl3, Jl4, Jl5, Jl6, Jl7, Jl8, Jl9, Jl10, Jl11, Jl12, Jl13, Jl14, Jl15, Jl16, Jl17, Jl18, Jl19, Jl20, Jl22, Jl24, Jl28, Jl30, Jl31, Jl32, Jl35, Jl36, Jl37, Jl38, Jl39, Jl40, Jl48, Jl57, Jl59, Jl60, Jl61, Jl63, Jl64, Jl68, Jl69, Jl96, Jl97, Jl98, Jl99, Jl100, Jl122, Jl149, Jl150, Jl165, Jl255, Jl511, Jl512, Jl600, Jl610, Jl940, Jl968, Jl999, Jl1134, Jl1152, Jl2048, Jl4608, Jl9999, Jl99999, Jl100000, Jl147456, Jl12345, Jl1103515245, Jl100000000, Jlm1, Jlm2, J_add, J_sub, J_mul, J_lt, J_le, J_eq, J_ite, J_cl, ri_j, wi_j, b2i_z, b2i_o, b2i_zo, Int.cast_ofNat_Int, Int.natCast_zero, Int.natCast_one, if_true, if_false, ite_self, Int.le_refl, J_bit, J_or, J_neg, J_oN, Int.reduceEq, Int.reduceLT, Int.reduceLE, Int.reduceNeg, Int.reduceAdd, Int.reduceSub, Int.reduceMul, Int.reduceToNat, J_shl, J_shr, V_ite, true_or, or_true, nz_j, J_div, J_rem, Option.bind_some, Option.toList_some, Option.toList_none, List.cons_append, List.nil_append, Jl21, Jl23, Jl25, Jl74, Jl83, Jl288, Jl324, Jl1800, Jlm8]
                repeat (first | rw [if_neg (by omega)] | rw [if_pos (by omega)])
            · rw [t2] at hin2
              refine ⟨(Mb, some (.int (J (c / 8))), some (.int (J (c % 8))), r8), ?_, h1, idle (Or.inr (Or.inl t2)), h3⟩
              rw [b277_81]
              simp (disch := omega) only [b277_88, b277_109, b277_112, b277_119, b277_193, gO_M hM, gR_M0 hM, gR_M1 hM, gR_M11 hM, gR_M13 hM, gR_M14 hM, gR_M15 hM, gR_M16 hM, gR_M17 hM, gR_M22 hM, gR_M32 hM, gR_M33 hM, gR_M34 hM, gR_M35 hM, gR_M36 hM, gR_M37 hM, gR_M38 hM, gR_M41 hM, gR_M42 hM, gR_M43 hM, gR_M45 hM, gR_M46 hM, gR_M47 hM, gR_M50 hM, gR_M51 hM, gR_M52 hM, al_M1 hM, al_M2 hM, al_M3 hM, al_M4 hM, al_M5 hM, al_M6 hM, al_M7 hM, al_M8 hM, al_M9 hM, al_M10 hM, al_M11 hM, al_M12 hM, al_M13 hM, al_M14 hM, al_M15 hM, al_M16 hM, al_M17 hM, al_M18 hM, al_M19 hM, al_M20 hM, al_M21 hM, al_M22 hM, al_M23 hM, al_M24 hM, al_M25 hM, rd_M1 hM, rd_M2 hM, rd_M3 hM, rd_M4 hM, rd_M5 hM, rd_M6 hM, rd_M7 hM, rd_M8 hM, rd_M9 hM, rd_M10 hM, rd_M11 hM, rd_M12 hM, rd_M13 hM, rd_M14 hM, rd_M15 hM, rd_M16 hM, rd_M17 hM, rd_M18 hM, rd_M19 hM, rd_M20 hM, rd_M21 hM, rd_M22 hM, rd_M23 hM, rd_M24 hM, rd_M25 hM, er, hin1, hin2, Bool.true_eq_false, Jl0, Jl1, Jl2, Jl3, Jl4, Jl5, Jl6, Jl7, Jl8, Jl9, Jl10, Jl11, Jl12, Jl13, Jl14, Jl15, Jl16, Jl17, Jl18, Jl19, Jl20, Jl22, Jl24, Jl28, Jl30, Jl31, Jl32, Jl35, Jl36, Jl37, Jl38, Jl39, Jl40, Jl48, Jl57, Jl59, Jl60, Jl61, Jl63, Jl64, Jl68, Jl69, Jl96, Jl97, Jl98, Jl99, Jl100, Jl122, Jl149, Jl150, Jl165, Jl255, Jl511, Jl512, Jl600, Jl610, Jl940, Jl968, Jl999, Jl1134, Jl1152, Jl2048, Jl4608, Jl9999, Jl99999, Jl100000, Jl147456, Jl12345, Jl1103515245, Jl100000000, Jlm1, Jlm2, J_add, J_sub, J_mul, J_lt, J_le, J_eq, J_ite, J_cl, ri_j, wi_j, b2i_z, b2i_o, b2i_zo, Int.cast_ofNat_Int, Int.natCast_zero, Int.natCast_one, if_true, if_false, ite_self, Int.le_refl, J_bit, J_or, J_neg, J_oN, Int.reduceEq, Int.reduceLT, Int.reduceLE, Int.reduceNeg, Int.reduceAdd, Int.reduceSub, Int.reduceMul, Int.reduceToNat, J_shl, J_shr, V_ite, true_or, or_true, nz_j, J_div, J_rem, Option.bind_some, Option.toList_some, Option.toList_none, List.cons_append, List.nil_append, Jl21, Jl23, Jl25, Jl74, Jl83, Jl288, Jl324, Jl1800, Jlm8]
              repeat (first | rw [if_neg (by omega)] | rw [if_pos (by omega)])) (by omega) (Ma, q6, q7, q8) ⟨g1, fun j hj => by
          dsimp only
          rw [show (if j % 8 < 0 % 8 then 0 / 8 + 1 else (0 : Int) / 8) = 0 by rw [if_neg (by omega)]; rfl]
          rfl, fun j _ => rfl⟩
        dsimp only at e6 h1 h2 h3
        refine ⟨(Mb, some (.int (J 64)), r6, r7, r8), ?_, h1, ?_⟩
        · dsimp only
          rw [b277_72]
          simp (disch := omega) only [b277_78, Jl0, Jl1, Jl2, Jl3, Jl4, Jl5, Jl6, Jl7, Jl8, Jl9, Jl10, Jl11, Jl12, Jl13, Jl14, Jl15, Jl16, Jl17, Jl18, Jl19, Jl20, Jl22, Jl24, Jl28, Jl30, Jl31, Jl32, Jl35, Jl36, Jl37, Jl38, Jl39, Jl40, Jl48, Jl57, Jl59, Jl60, Jl61, Jl63, Jl64, Jl68, Jl69, Jl96, Jl97, Jl98, Jl99, Jl100, Jl122, Jl149, Jl150, Jl165, Jl255, Jl511, Jl512, Jl600, Jl610, Jl940, Jl968, Jl999, Jl1134, Jl1152, Jl2048, Jl4608, Jl9999, Jl99999, Jl100000, Jl147456, Jl12345, Jl1103515245, Jl100000000, Jlm1, Jlm2, J_add, J_sub, J_mul, J_lt, J_le, J_eq, J_ite, J_cl, ri_j, wi_j, b2i_z, b2i_o, b2i_zo, Int.cast_ofNat_Int, Int.natCast_zero, Int.natCast_one, if_true, if_false, ite_self, Int.le_refl, J_bit, J_or, J_neg, J_oN, Int.reduceEq, Int.reduceLT, Int.reduceLE, Int.reduceNeg, Int.reduceAdd, Int.reduceSub, Int.reduceMul, Int.reduceToNat, J_shl, J_shr, V_ite, true_or, or_true, nz_j, J_div, J_rem, Option.bind_some, Option.toList_some, Option.toList_none, List.cons_append, List.nil_append, Jl21, Jl23, Jl25, Jl74, Jl83, Jl288, Jl324, Jl1800, Jlm8]
          rw [if_neg (by omega), e6, b277_81]
          simp (disch := omega) only [b277_199, Jl0, Jl1, Jl2, Jl3, Jl4, Jl5, Jl6, Jl7, Jl8, Jl9, Jl10, Jl11, Jl12, Jl13, Jl14, Jl15, Jl16, Jl17, Jl18, Jl19, Jl20, Jl22, Jl24, Jl28, Jl30, Jl31, Jl32, Jl35, Jl36, Jl37, Jl38, Jl39, Jl40, Jl48, Jl57, Jl59, Jl60, Jl61, Jl63, Jl64, Jl68, Jl69, Jl96, Jl97, Jl98, Jl99, Jl100, Jl122, Jl149, Jl150, Jl165, Jl255, Jl511, Jl512, Jl600, Jl610, Jl940, Jl968, Jl999, Jl1134, Jl1152, Jl2048, Jl4608, Jl9999, Jl99999, Jl100000, Jl147456, Jl12345, Jl1103515245, Jl100000000, Jlm1, Jlm2, J_add, J_sub, J_mul, J_lt, J_le, J_eq, J_ite, J_cl, ri_j, wi_j, b2i_z, b2i_o, b2i_zo, Int.cast_ofNat_Int, Int.natCast_zero, Int.natCast_one, if_true, if_false, ite_self, Int.le_refl, J_bit, J_or, J_neg, J_oN, Int.reduceEq, Int.reduceLT, Int.reduceLE, Int.reduceNeg, Int.reduceAdd, Int.reduceSub, Int.reduceMul, Int.reduceToNat, J_shl, J_shr, V_ite, true_or, or_true, nz_j, J_div, J_rem, Option.bind_some, Option.toList_some, Option.toList_none, List.cons_append, List.nil_append, Jl21, Jl23, Jl25, Jl74, Jl83, Jl288, Jl324, Jl1800, Jlm8]
        · dsimp only
          rw [← hss, tpA_s f1, hss]
          refine tAll_s hV hs g2 (fun j hj => ?_) h3
          rw [h2 j hj]
          rw [show (if j % 8 < 64 % 8 then 64 / 8 + 1 else (64 : Int) / 8) = 8 by rw [if_neg (by omega)]; rfl]) (by omega) (M4, none, none, none, none) ⟨d1, hrel0⟩
      dsimp only at e5 f1' f2'
      have elast : tpA S (fwQ S 100000000 (S 0 0)) y (p2 (S 0 0) - 1) = tpA S (fwQ S 100000000 (S 0 0)) y (p2 (S 0 0) - 2) := by
        have := tpA_s (S := S) (D := fwQ S 100000000 (S 0 0)) (fr := y) (i := p2 (S 0 0) - 2) (by omega)
        rw [show p2 (S 0 0) - 2 + 1 = p2 (S 0 0) - 1 by omega, tp_last hV] at this
        exact this
      rw [elast] at f2'
      have hfin := tp_fin hV f2'
      -- the least
      have LL := tele (fun i => ex PG E lo d 277 213 [some (.ref m), some (.int (J (x))), some (.int (J (y))), some (.int (J ((p2 (S 0 0) - 1)))), some (.int (J ((fo (fun h v => mnI v (M5 25 ((p2 (S 0 0) - 1) * 8 + h))) 99999 i)))), some (.int (J (i))), q6, q7, q8] [] (mj μ (sB I m 26 M5))) (a := 0) (n := S 0 0) (fun i g1 g2 => by
        have hn5 := hnf M5 f1'
        have r1 := (f2' (p2 (S 0 0) - 1) i (by omega) (by omega) g1 g2).1
        have bb := bc_b (p2 (S 0 0) - 1)
        unfold tRel at r1
        have fb : 0 ≤ fo (fun h v => mnI v (M5 25 ((p2 (S 0 0) - 1) * 8 + h))) 99999 i ∧ fo (fun h v => mnI v (M5 25 ((p2 (S 0 0) - 1) * 8 + h))) 99999 i ≤ 200000 := by
          refine fo_ind (fun i x => 0 ≤ x ∧ x ≤ 200000) _ _ g1 (by omega) (fun a x q1 q2 q3 => ?_)
          have r2 := (f2' (p2 (S 0 0) - 1) a (by omega) (by omega) q1 (by omega)).1
          unfold tRel at r2
          unfold mnI
          split <;> omega
        rw [b277_213, fo_s _ _ g1]
        generalize fo (fun h v => mnI v (M5 25 ((p2 (S 0 0) - 1) * 8 + h))) 99999 i = fv at *
        unfold mnI
        simp (disch := omega) only [b277_219, b277_222, b277_239, gO_M hM, gR_M0 hM, gR_M1 hM, gR_M11 hM, gR_M13 hM, gR_M14 hM, gR_M15 hM, gR_M16 hM, gR_M17 hM, gR_M22 hM, gR_M32 hM, gR_M33 hM, gR_M34 hM, gR_M35 hM, gR_M36 hM, gR_M37 hM, gR_M38 hM, gR_M41 hM, gR_M42 hM, gR_M43 hM, gR_M45 hM, gR_M46 hM, gR_M47 hM, gR_M50 hM, gR_M51 hM, gR_M52 hM, al_M1 hM, al_M2 hM, al_M3 hM, al_M4 hM, al_M5 hM, al_M6 hM, al_M7 hM, al_M8 hM, al_M9 hM, al_M10 hM, al_M11 hM, al_M12 hM, al_M13 hM, al_M14 hM, al_M15 hM, al_M16 hM, al_M17 hM, al_M18 hM, al_M19 hM, al_M20 hM, al_M21 hM, al_M22 hM, al_M23 hM, al_M24 hM, al_M25 hM, rd_M1 hM, rd_M2 hM, rd_M3 hM, rd_M4 hM, rd_M5 hM, rd_M6 hM, rd_M7 hM, rd_M8 hM, rd_M9 hM, rd_M10 hM, rd_M11 hM, rd_M12 hM, rd_M13 hM, rd_M14 hM, rd_M15 hM, rd_M16 hM, rd_M17 hM, rd_M18 hM, rd_M19 hM, rd_M20 hM, rd_M21 hM, rd_M22 hM, rd_M23 hM, rd_M24 hM, rd_M25 hM, sB_0, sB_c, u3_sB0, u3_sB, u3_s, u3_n, Nat.reduceLT, hn5, Int.mul_comm 8, le_sp, Jl0, Jl1, Jl2, Jl3, Jl4, Jl5, Jl6, Jl7, Jl8, Jl9, Jl10, Jl11, Jl12, Jl13, Jl14, Jl15, Jl16, Jl17, Jl18, Jl19, Jl20, Jl22, Jl24, Jl28, Jl30, Jl31, Jl32, Jl35, Jl36, Jl37, Jl38, Jl39, Jl40, Jl48, Jl57, Jl59, Jl60, Jl61, Jl63, Jl64, Jl68, Jl69, Jl96, Jl97, Jl98, Jl99, Jl100, Jl122, Jl149, Jl150, Jl165, Jl255, Jl511, Jl512, Jl600, Jl610, Jl940, Jl968, Jl999, Jl1134, Jl1152, Jl2048, Jl4608, Jl9999, Jl99999, Jl100000, Jl147456, Jl12345, Jl1103515245, Jl100000000, Jlm1, Jlm2, J_add, J_sub, J_mul, J_lt, J_le, J_eq, J_ite, J_cl, ri_j, wi_j, b2i_z, b2i_o, b2i_zo, Int.cast_ofNat_Int, Int.natCast_zero, Int.natCast_one, if_true, if_false, ite_self, Int.le_refl, J_bit, J_or, J_neg, J_oN, Int.reduceEq, Int.reduceLT, Int.reduceLE, Int.reduceNeg, Int.reduceAdd, Int.reduceSub, Int.reduceMul, Int.reduceToNat, J_shl, J_shr, V_ite, true_or, or_true, nz_j, J_div, J_rem, Option.bind_some, Option.toList_some, Option.toList_none, List.cons_append, List.nil_append, Jl21, Jl23, Jl25, Jl74, Jl83, Jl288, Jl324, Jl1800, Jlm8]
        repeat (first | rw [if_neg (by omega)] | rw [if_pos (by omega)])) (by omega)
      refine ⟨M5, ?_, by rw [f1' 1 (by decide), b1 1 (by decide)]; exact m1, by rw [f1' 2 (by decide), b1 2 (by decide)]; exact m2⟩
      unfold tripQ
      rw [hfin]
      have hn3 := hnf M3 c1
      have hn4 := hnf M4 d1
      have hn5 := hnf M5 f1'
      have fb : 0 ≤ fo (fun h v => mnI v (M5 25 ((p2 (S 0 0) - 1) * 8 + h))) 99999 (S 0 0) ∧ fo (fun h v => mnI v (M5 25 ((p2 (S 0 0) - 1) * 8 + h))) 99999 (S 0 0) ≤ 200000 := by
        refine fo_ind (fun i x => 0 ≤ x ∧ x ≤ 200000) _ _ (by omega) (by omega) (fun a x q1 q2 q3 => ?_)
        have r2 := (f2' (p2 (S 0 0) - 1) a (by omega) (by omega) q1 (by omega)).1
        have bb := bc_b (p2 (S 0 0) - 1)
        unfold tRel at r2
        unfold mnI
        split <;> omega
      simp (disch := omega) only [b277_0, b277_5, b277_8, b277_13, b277_18, b277_22, e277, gO_M hM, gR_M0 hM, gR_M1 hM, gR_M11 hM, gR_M13 hM, gR_M14 hM, gR_M15 hM, gR_M16 hM, gR_M17 hM, gR_M22 hM, gR_M32 hM, gR_M33 hM, gR_M34 hM, gR_M35 hM, gR_M36 hM, gR_M37 hM, gR_M38 hM, gR_M41 hM, gR_M42 hM, gR_M43 hM, gR_M45 hM, gR_M46 hM, gR_M47 hM, gR_M50 hM, gR_M51 hM, gR_M52 hM, al_M1 hM, al_M2 hM, al_M3 hM, al_M4 hM, al_M5 hM, al_M6 hM, al_M7 hM, al_M8 hM, al_M9 hM, al_M10 hM, al_M11 hM, al_M12 hM, al_M13 hM, al_M14 hM, al_M15 hM, al_M16 hM, al_M17 hM, al_M18 hM, al_M19 hM, al_M20 hM, al_M21 hM, al_M22 hM, al_M23 hM, al_M24 hM, al_M25 hM, rd_M1 hM, rd_M2 hM, rd_M3 hM, rd_M4 hM, rd_M5 hM, rd_M6 hM, rd_M7 hM, rd_M8 hM, rd_M9 hM, rd_M10 hM, rd_M11 hM, rd_M12 hM, rd_M13 hM, rd_M14 hM, rd_M15 hM, rd_M16 hM, rd_M17 hM, rd_M18 hM, rd_M19 hM, rd_M20 hM, rd_M21 hM, rd_M22 hM, rd_M23 hM, rd_M24 hM, rd_M25 hM, gP_M hM hl, wr_M1 hM hl, wr_M2 hM hl, wr_M3 hM hl, wr_M4 hM hl, wr_M5 hM hl, wr_M6 hM hl, wr_M7 hM hl, wr_M8 hM hl, wr_M9 hM hl, wr_M10 hM hl, wr_M11 hM hl, wr_M12 hM hl, wr_M13 hM hl, wr_M14 hM hl, wr_M15 hM hl, wr_M16 hM hl, wr_M17 hM hl, wr_M18 hM hl, wr_M19 hM hl, wr_M20 hM hl, wr_M21 hM hl, wr_M22 hM hl, wr_M23 hM hl, wr_M24 hM hl, wr_M25 hM hl, sB_0, sB_c, u3_sB0, u3_sB, u3_s, u3_n, Nat.reduceLT, e1, iH_sp, py, e2, and_self, decide_true, Bool.true_eq_false, Jl0, Jl1, Jl2, Jl3, Jl4, Jl5, Jl6, Jl7, Jl8, Jl9, Jl10, Jl11, Jl12, Jl13, Jl14, Jl15, Jl16, Jl17, Jl18, Jl19, Jl20, Jl22, Jl24, Jl28, Jl30, Jl31, Jl32, Jl35, Jl36, Jl37, Jl38, Jl39, Jl40, Jl48, Jl57, Jl59, Jl60, Jl61, Jl63, Jl64, Jl68, Jl69, Jl96, Jl97, Jl98, Jl99, Jl100, Jl122, Jl149, Jl150, Jl165, Jl255, Jl511, Jl512, Jl600, Jl610, Jl940, Jl968, Jl999, Jl1134, Jl1152, Jl2048, Jl4608, Jl9999, Jl99999, Jl100000, Jl147456, Jl12345, Jl1103515245, Jl100000000, Jlm1, Jlm2, J_add, J_sub, J_mul, J_lt, J_le, J_eq, J_ite, J_cl, ri_j, wi_j, b2i_z, b2i_o, b2i_zo, Int.cast_ofNat_Int, Int.natCast_zero, Int.natCast_one, if_true, if_false, ite_self, Int.le_refl, J_bit, J_or, J_neg, J_oN, Int.reduceEq, Int.reduceLT, Int.reduceLE, Int.reduceNeg, Int.reduceAdd, Int.reduceSub, Int.reduceMul, Int.reduceToNat, J_shl, J_shr, V_ite, true_or, or_true, nz_j, J_div, J_rem, Option.bind_some, Option.toList_some, Option.toList_none, List.cons_append, List.nil_append, Jl21, Jl23, Jl25, Jl74, Jl83, Jl288, Jl324, Jl1800, Jlm8]
      rw [e3, b277_24]
      simp (disch := omega) only [b277_46, b277_60, b277_65, gO_M hM, gR_M0 hM, gR_M1 hM, gR_M11 hM, gR_M13 hM, gR_M14 hM, gR_M15 hM, gR_M16 hM, gR_M17 hM, gR_M22 hM, gR_M32 hM, gR_M33 hM, gR_M34 hM, gR_M35 hM, gR_M36 hM, gR_M37 hM, gR_M38 hM, gR_M41 hM, gR_M42 hM, gR_M43 hM, gR_M45 hM, gR_M46 hM, gR_M47 hM, gR_M50 hM, gR_M51 hM, gR_M52 hM, al_M1 hM, al_M2 hM, al_M3 hM, al_M4 hM, al_M5 hM, al_M6 hM, al_M7 hM, al_M8 hM, al_M9 hM, al_M10 hM, al_M11 hM, al_M12 hM, al_M13 hM, al_M14 hM, al_M15 hM, al_M16 hM, al_M17 hM, al_M18 hM, al_M19 hM, al_M20 hM, al_M21 hM, al_M22 hM, al_M23 hM, al_M24 hM, al_M25 hM, rd_M1 hM, rd_M2 hM, rd_M3 hM, rd_M4 hM, rd_M5 hM, rd_M6 hM, rd_M7 hM, rd_M8 hM, rd_M9 hM, rd_M10 hM, rd_M11 hM, rd_M12 hM, rd_M13 hM, rd_M14 hM, rd_M15 hM, rd_M16 hM, rd_M17 hM, rd_M18 hM, rd_M19 hM, rd_M20 hM, rd_M21 hM, rd_M22 hM, rd_M23 hM, rd_M24 hM, rd_M25 hM, gP_M hM hl, wr_M1 hM hl, wr_M2 hM hl, wr_M3 hM hl, wr_M4 hM hl, wr_M5 hM hl, wr_M6 hM hl, wr_M7 hM hl, wr_M8 hM hl, wr_M9 hM hl, wr_M10 hM hl, wr_M11 hM hl, wr_M12 hM hl, wr_M13 hM hl, wr_M14 hM hl, wr_M15 hM hl, wr_M16 hM hl, wr_M17 hM hl, wr_M18 hM hl, wr_M19 hM hl, wr_M20 hM hl, wr_M21 hM hl, wr_M22 hM hl, wr_M23 hM hl, wr_M24 hM hl, wr_M25 hM hl, sB_0, sB_c, u3_sB0, u3_sB, u3_s, u3_n, Nat.reduceLT, Int.mul_comm 8, hM4, hn4, Jl0, Jl1, Jl2, Jl3, Jl4, Jl5, Jl6, Jl7, Jl8, Jl9, Jl10, Jl11, Jl12, Jl13, Jl14, Jl15, Jl16, Jl17, Jl18, Jl19, Jl20, Jl22, Jl24, Jl28, Jl30, Jl31, Jl32, Jl35, Jl36, Jl37, Jl38, Jl39, Jl40, Jl48, Jl57, Jl59, Jl60, Jl61, Jl63, Jl64, Jl68, Jl69, Jl96, Jl97, Jl98, Jl99, Jl100, Jl122, Jl149, Jl150, Jl165, Jl255, Jl511, Jl512, Jl600, Jl610, Jl940, Jl968, Jl999, Jl1134, Jl1152, Jl2048, Jl4608, Jl9999, Jl99999, Jl100000, Jl147456, Jl12345, Jl1103515245, Jl100000000, Jlm1, Jlm2, J_add, J_sub, J_mul, J_lt, J_le, J_eq, J_ite, J_cl, ri_j, wi_j, b2i_z, b2i_o, b2i_zo, Int.cast_ofNat_Int, Int.natCast_zero, Int.natCast_one, if_true, if_false, ite_self, Int.le_refl, J_bit, J_or, J_neg, J_oN, Int.reduceEq, Int.reduceLT, Int.reduceLE, Int.reduceNeg, Int.reduceAdd, Int.reduceSub, Int.reduceMul, Int.reduceToNat, J_shl, J_shr, V_ite, true_or, or_true, nz_j, J_div, J_rem, Option.bind_some, Option.toList_some, Option.toList_none, List.cons_append, List.nil_append, Jl21, Jl23, Jl25, Jl74, Jl83, Jl288, Jl324, Jl1800, Jlm8]
      rw [show (0 : Int) + 1 = 1 by omega] at e5
      rw [e5, b277_72]
      simp (disch := omega) only [b277_205, Jl0, Jl1, Jl2, Jl3, Jl4, Jl5, Jl6, Jl7, Jl8, Jl9, Jl10, Jl11, Jl12, Jl13, Jl14, Jl15, Jl16, Jl17, Jl18, Jl19, Jl20, Jl22, Jl24, Jl28, Jl30, Jl31, Jl32, Jl35, Jl36, Jl37, Jl38, Jl39, Jl40, Jl48, Jl57, Jl59, Jl60, Jl61, Jl63, Jl64, Jl68, Jl69, Jl96, Jl97, Jl98, Jl99, Jl100, Jl122, Jl149, Jl150, Jl165, Jl255, Jl511, Jl512, Jl600, Jl610, Jl940, Jl968, Jl999, Jl1134, Jl1152, Jl2048, Jl4608, Jl9999, Jl99999, Jl100000, Jl147456, Jl12345, Jl1103515245, Jl100000000, Jlm1, Jlm2, J_add, J_sub, J_mul, J_lt, J_le, J_eq, J_ite, J_cl, ri_j, wi_j, b2i_z, b2i_o, b2i_zo, Int.cast_ofNat_Int, Int.natCast_zero, Int.natCast_one, if_true, if_false, ite_self, Int.le_refl, J_bit, J_or, J_neg, J_oN, Int.reduceEq, Int.reduceLT, Int.reduceLE, Int.reduceNeg, Int.reduceAdd, Int.reduceSub, Int.reduceMul, Int.reduceToNat, J_shl, J_shr, V_ite, true_or, or_true, nz_j, J_div, J_rem, Option.bind_some, Option.toList_some, Option.toList_none, List.cons_append, List.nil_append, Jl21, Jl23, Jl25, Jl74, Jl83, Jl288, Jl324, Jl1800, Jlm8]
      rw [if_pos (by omega)]
      refine LL.trans ?_
      rw [b277_213]
      simp (disch := omega) only [b277_219, b277_247, b277_255, b277_259, b277_261, gO_M hM, gR_M0 hM, gR_M1 hM, gR_M11 hM, gR_M13 hM, gR_M14 hM, gR_M15 hM, gR_M16 hM, gR_M17 hM, gR_M22 hM, gR_M32 hM, gR_M33 hM, gR_M34 hM, gR_M35 hM, gR_M36 hM, gR_M37 hM, gR_M38 hM, gR_M41 hM, gR_M42 hM, gR_M43 hM, gR_M45 hM, gR_M46 hM, gR_M47 hM, gR_M50 hM, gR_M51 hM, gR_M52 hM, al_M1 hM, al_M2 hM, al_M3 hM, al_M4 hM, al_M5 hM, al_M6 hM, al_M7 hM, al_M8 hM, al_M9 hM, al_M10 hM, al_M11 hM, al_M12 hM, al_M13 hM, al_M14 hM, al_M15 hM, al_M16 hM, al_M17 hM, al_M18 hM, al_M19 hM, al_M20 hM, al_M21 hM, al_M22 hM, al_M23 hM, al_M24 hM, al_M25 hM, rd_M1 hM, rd_M2 hM, rd_M3 hM, rd_M4 hM, rd_M5 hM, rd_M6 hM, rd_M7 hM, rd_M8 hM, rd_M9 hM, rd_M10 hM, rd_M11 hM, rd_M12 hM, rd_M13 hM, rd_M14 hM, rd_M15 hM, rd_M16 hM, rd_M17 hM, rd_M18 hM, rd_M19 hM, rd_M20 hM, rd_M21 hM, rd_M22 hM, rd_M23 hM, rd_M24 hM, rd_M25 hM, hn5, Jl0, Jl1, Jl2, Jl3, Jl4, Jl5, Jl6, Jl7, Jl8, Jl9, Jl10, Jl11, Jl12, Jl13, Jl14, Jl15, Jl16, Jl17, Jl18, Jl19, Jl20, Jl22, Jl24, Jl28, Jl30, Jl31, Jl32, Jl35, Jl36, Jl37, Jl38, Jl39, Jl40, Jl48, Jl57, Jl59, Jl60, Jl61, Jl63, Jl64, Jl68, Jl69, Jl96, Jl97, Jl98, Jl99, Jl100, Jl122, Jl149, Jl150, Jl165, Jl255, Jl511, Jl512, Jl600, Jl610, Jl940, Jl968, Jl999, Jl1134, Jl1152, Jl2048, Jl4608, Jl9999, Jl99999, Jl100000, Jl147456, Jl12345, Jl1103515245, Jl100000000, Jlm1, Jlm2, J_add, J_sub, J_mul, J_lt, J_le, J_eq, J_ite, J_cl, ri_j, wi_j, b2i_z, b2i_o, b2i_zo, Int.cast_ofNat_Int, Int.natCast_zero, Int.natCast_one, if_true, if_false, ite_self, Int.le_refl, J_bit, J_or, J_neg, J_oN, Int.reduceEq, Int.reduceLT, Int.reduceLE, Int.reduceNeg, Int.reduceAdd, Int.reduceSub, Int.reduceMul, Int.reduceToNat, J_shl, J_shr, V_ite, true_or, or_true, nz_j, J_div, J_rem, Option.bind_some, Option.toList_some, Option.toList_none, List.cons_append, List.nil_append, Jl21, Jl23, Jl25, Jl74, Jl83, Jl288, Jl324, Jl1800, Jlm8]
    · rw [if_neg (fun q => py q.2)]
      refine ⟨M1, ?_, m1, m2⟩
      simp (disch := omega) only [b277_0, b277_5, b277_8, b277_13, b277_16, e277, gO_M hM, gR_M0 hM, gR_M1 hM, gR_M11 hM, gR_M13 hM, gR_M14 hM, gR_M15 hM, gR_M16 hM, gR_M17 hM, gR_M22 hM, gR_M32 hM, gR_M33 hM, gR_M34 hM, gR_M35 hM, gR_M36 hM, gR_M37 hM, gR_M38 hM, gR_M41 hM, gR_M42 hM, gR_M43 hM, gR_M45 hM, gR_M46 hM, gR_M47 hM, gR_M50 hM, gR_M51 hM, gR_M52 hM, al_M1 hM, al_M2 hM, al_M3 hM, al_M4 hM, al_M5 hM, al_M6 hM, al_M7 hM, al_M8 hM, al_M9 hM, al_M10 hM, al_M11 hM, al_M12 hM, al_M13 hM, al_M14 hM, al_M15 hM, al_M16 hM, al_M17 hM, al_M18 hM, al_M19 hM, al_M20 hM, al_M21 hM, al_M22 hM, al_M23 hM, al_M24 hM, al_M25 hM, rd_M1 hM, rd_M2 hM, rd_M3 hM, rd_M4 hM, rd_M5 hM, rd_M6 hM, rd_M7 hM, rd_M8 hM, rd_M9 hM, rd_M10 hM, rd_M11 hM, rd_M12 hM, rd_M13 hM, rd_M14 hM, rd_M15 hM, rd_M16 hM, rd_M17 hM, rd_M18 hM, rd_M19 hM, rd_M20 hM, rd_M21 hM, rd_M22 hM, rd_M23 hM, rd_M24 hM, rd_M25 hM, gP_M hM hl, wr_M1 hM hl, wr_M2 hM hl, wr_M3 hM hl, wr_M4 hM hl, wr_M5 hM hl, wr_M6 hM hl, wr_M7 hM hl, wr_M8 hM hl, wr_M9 hM hl, wr_M10 hM hl, wr_M11 hM hl, wr_M12 hM hl, wr_M13 hM hl, wr_M14 hM hl, wr_M15 hM hl, wr_M16 hM hl, wr_M17 hM hl, wr_M18 hM hl, wr_M19 hM hl, wr_M20 hM hl, wr_M21 hM hl, wr_M22 hM hl, wr_M23 hM hl, wr_M24 hM hl, wr_M25 hM hl, sB_0, sB_c, u3_sB0, u3_sB, u3_s, u3_n, Nat.reduceLT, e1, iH_sp, py, decide_false, Bool.true_eq_false, Jl0, Jl1, Jl2, Jl3, Jl4, Jl5, Jl6, Jl7, Jl8, Jl9, Jl10, Jl11, Jl12, Jl13, Jl14, Jl15, Jl16, Jl17, Jl18, Jl19, Jl20, Jl22, Jl24, Jl28, Jl30, Jl31, Jl32, Jl35, Jl36, Jl37, Jl38, Jl39, Jl40, Jl48, Jl57, Jl59, Jl60, Jl61, Jl63, Jl64, Jl68, Jl69, Jl96, Jl97, Jl98, Jl99, Jl100, Jl122, Jl149, Jl150, Jl165, Jl255, Jl511, Jl512, Jl600, Jl610, Jl940, Jl968, Jl999, Jl1134, Jl1152, Jl2048, Jl4608, Jl9999, Jl99999, Jl100000, Jl147456, Jl12345, Jl1103515245, Jl100000000, Jlm1, Jlm2, J_add, J_sub, J_mul, J_lt, J_le, J_eq, J_ite, J_cl, ri_j, wi_j, b2i_z, b2i_o, b2i_zo, Int.cast_ofNat_Int, Int.natCast_zero, Int.natCast_one, if_true, if_false, ite_self, Int.le_refl, J_bit, J_or, J_neg, J_oN, Int.reduceEq, Int.reduceLT, Int.reduceLE, Int.reduceNeg, Int.reduceAdd, Int.reduceSub, Int.reduceMul, Int.reduceToNat, J_shl, J_shr, V_ite, true_or, or_true, nz_j, J_div, J_rem, Option.bind_some, Option.toList_some, Option.toList_none, List.cons_append, List.nil_append, Jl21, Jl23, Jl25, Jl74, Jl83, Jl288, Jl324, Jl1800, Jlm8]
  · rw [decide_eq_false p1] at e1
    rw [if_neg (fun q => p1 q.1)]
    refine ⟨M1, ?_, m1, m2⟩
    simp (disch := omega) only [b277_0, b277_5, b277_16, e277, gO_M hM, gR_M0 hM, gR_M1 hM, gR_M11 hM, gR_M13 hM, gR_M14 hM, gR_M15 hM, gR_M16 hM, gR_M17 hM, gR_M22 hM, gR_M32 hM, gR_M33 hM, gR_M34 hM, gR_M35 hM, gR_M36 hM, gR_M37 hM, gR_M38 hM, gR_M41 hM, gR_M42 hM, gR_M43 hM, gR_M45 hM, gR_M46 hM, gR_M47 hM, gR_M50 hM, gR_M51 hM, gR_M52 hM, al_M1 hM, al_M2 hM, al_M3 hM, al_M4 hM, al_M5 hM, al_M6 hM, al_M7 hM, al_M8 hM, al_M9 hM, al_M10 hM, al_M11 hM, al_M12 hM, al_M13 hM, al_M14 hM, al_M15 hM, al_M16 hM, al_M17 hM, al_M18 hM, al_M19 hM, al_M20 hM, al_M21 hM, al_M22 hM, al_M23 hM, al_M24 hM, al_M25 hM, rd_M1 hM, rd_M2 hM, rd_M3 hM, rd_M4 hM, rd_M5 hM, rd_M6 hM, rd_M7 hM, rd_M8 hM, rd_M9 hM, rd_M10 hM, rd_M11 hM, rd_M12 hM, rd_M13 hM, rd_M14 hM, rd_M15 hM, rd_M16 hM, rd_M17 hM, rd_M18 hM, rd_M19 hM, rd_M20 hM, rd_M21 hM, rd_M22 hM, rd_M23 hM, rd_M24 hM, rd_M25 hM, gP_M hM hl, wr_M1 hM hl, wr_M2 hM hl, wr_M3 hM hl, wr_M4 hM hl, wr_M5 hM hl, wr_M6 hM hl, wr_M7 hM hl, wr_M8 hM hl, wr_M9 hM hl, wr_M10 hM hl, wr_M11 hM hl, wr_M12 hM hl, wr_M13 hM hl, wr_M14 hM hl, wr_M15 hM hl, wr_M16 hM hl, wr_M17 hM hl, wr_M18 hM hl, wr_M19 hM hl, wr_M20 hM hl, wr_M21 hM hl, wr_M22 hM hl, wr_M23 hM hl, wr_M24 hM hl, wr_M25 hM hl, sB_0, sB_c, u3_sB0, u3_sB, u3_s, u3_n, Nat.reduceLT, e1, b2i_f, Jl0, Jl1, Jl2, Jl3, Jl4, Jl5, Jl6, Jl7, Jl8, Jl9, Jl10, Jl11, Jl12, Jl13, Jl14, Jl15, Jl16, Jl17, Jl18, Jl19, Jl20, Jl22, Jl24, Jl28, Jl30, Jl31, Jl32, Jl35, Jl36, Jl37, Jl38, Jl39, Jl40, Jl48, Jl57, Jl59, Jl60, Jl61, Jl63, Jl64, Jl68, Jl69, Jl96, Jl97, Jl98, Jl99, Jl100, Jl122, Jl149, Jl150, Jl165, Jl255, Jl511, Jl512, Jl600, Jl610, Jl940, Jl968, Jl999, Jl1134, Jl1152, Jl2048, Jl4608, Jl9999, Jl99999, Jl100000, Jl147456, Jl12345, Jl1103515245, Jl100000000, Jlm1, Jlm2, J_add, J_sub, J_mul, J_lt, J_le, J_eq, J_ite, J_cl, ri_j, wi_j, b2i_z, b2i_o, b2i_zo, Int.cast_ofNat_Int, Int.natCast_zero, Int.natCast_one, if_true, if_false, ite_self, Int.le_refl, J_bit, J_or, J_neg, J_oN, Int.reduceEq, Int.reduceLT, Int.reduceLE, Int.reduceNeg, Int.reduceAdd, Int.reduceSub, Int.reduceMul, Int.reduceToNat, J_shl, J_shr, V_ite, true_or, or_true, nz_j, J_div, J_rem, Option.bind_some, Option.toList_some, Option.toList_none, List.cons_append, List.nil_append, Jl21, Jl23, Jl25, Jl74, Jl83, Jl288, Jl324, Jl1800, Jlm8]
end REF
