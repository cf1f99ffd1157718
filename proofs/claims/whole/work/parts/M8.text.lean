/-! text() OF THE CLASS -/
/-- two rows of cells say the same -/
def agS (S S' : Nat → Int → Int) : Prop := (S' 0 0 = S 0 0 ∧ S' 0 1 = S 0 1 ∧ S' 0 3 = S 0 3 ∧ S' 0 13 = S 0 13) ∧ (∀ i, 0 ≤ i → i < 64 → S' 1 i = S 1 i) ∧ ∀ f : Nat, 2 ≤ f → f ≤ 12 → ∀ j, 0 ≤ j → j < 9 → S' f j = S f j
def agL (S S' : Nat → Int → Int) : Prop := (S' 0 0 = S 0 0 ∧ S' 0 1 = S 0 1 ∧ S' 0 2 = S 0 2 ∧ S' 0 3 = S 0 3 ∧ S' 0 4 = S 0 4) ∧ ∀ i, 0 ≤ i → i < 9 → S' 1 i = S 1 i
def agR (S S' : Nat → Int → Int) : Prop := (S' 0 0 = S 0 0 ∧ S' 0 1 = S 0 1 ∧ S' 0 2 = S 0 2) ∧ (∀ i, 0 ≤ i → i < 40 → S' 1 i = S 1 i) ∧ ∀ i, 0 ≤ i → i < 40 → S' 2 i = S 2 i
def agC (S S' : Nat → Int → Int) : Prop := S' 0 0 = S 0 0 ∧ ∀ i, 0 ≤ i → i < 8 → S' 1 i = S 1 i
theorem agS_V {S S' : Nat → Int → Int} (h : agS S S') (hV : SV5 S) : SV5 S' := by
  obtain ⟨⟨a0, a1, a3, a13⟩, a, f⟩ := h
  obtain ⟨⟨v1, v2, v3, v4⟩, v5, v6⟩ := hV
  refine ⟨⟨by omega, fun i g1 g2 => by rw [a i g1 g2]; exact v2 i g1 g2, fun k g1 g2 => ?_, fun i g1 g2 => ?_⟩, by omega, fun j g1 g2 g3 => ?_⟩
  · rw [f 2 (by omega) (by omega) k g1 (by omega), f 3 (by omega) (by omega) k g1 (by omega), f 4 (by omega) (by omega) k g1 (by omega), f 5 (by omega) (by omega) k g1 (by omega), f 6 (by omega) (by omega) k g1 (by omega), f 7 (by omega) (by omega) k g1 (by omega), f 8 (by omega) (by omega) k g1 (by omega), f 9 (by omega) (by omega) k g1 (by omega), f 10 (by omega) (by omega) k g1 (by omega)]
    exact v3 k g1 (by omega)
  · rw [f 11 (by omega) (by omega) i g1 (by omega), f 12 (by omega) (by omega) i g1 (by omega)]
    exact v4 i g1 (by omega)
  · rw [f 10 (by omega) (by omega) j g1 (by omega)] at g3 ⊢
    have := v6 j g1 (by omega) g3
    rw [f 2 (by omega) (by omega) (S 10 j) this.1 (by omega), a3]
    exact this
theorem agL_V {S S' : Nat → Int → Int} (h : agL S S') (hV : LV S) : LV S' := ⟨by have := h.1; have := hV.1; omega, fun w a b => by rw [h.2 w a b]; exact hV.2 w a b⟩
theorem agR_V {S S' : Nat → Int → Int} (h : agR S S') (hV : RV S) : RV S' := by
  have h1 := h.1
  have v1 := hV.1
  refine ⟨by omega, fun i a b => ?_⟩
  rw [h.2.1 i a (by omega), h.2.2 i a (by omega)]
  exact hV.2 i a (by omega)
theorem agC_V {S S' : Nat → Int → Int} (h : agC S S') (hV : CV S) : CV S' := by
  have h1 := h.1
  have v1 := hV.1
  refine ⟨by omega, fun i a b => ?_⟩
  rw [h.2 i a (by omega)]
  exact hV.2 i a (by omega)
section CP
variable {I : Nat → Int → Int} {a b : Nat}
theorem cpk_s {J : Nat → Int → Int} {n j : Int} (h : 0 ≤ j ∧ j < n) : cpk J I a b n a j = I b j := by
  unfold cpk
  rw [sA_s]
  unfold cpr
  rw [if_pos (by omega), show 0 + (j - 0) = j by omega]
theorem cpk_n {J : Nat → Int → Int} {n : Int} {x : Nat} (h : ¬ x = a) : cpk J I a b n x = J x := sA_n h
theorem cpS_ag : agS (rws I b) (rws (cpS I a b) a) ∧ ∀ x, (x < a ∨ a + 13 ≤ x) → cpS I a b x = I x := by
  refine ⟨⟨?_, fun i g1 g2 => ?_, fun f f1 f2 j g1 g2 => ?_⟩, fun x hx => ?_⟩
  · show cpS I a b a 0 = I b 0 ∧ cpS I a b a 1 = I b 1 ∧ cpS I a b a 3 = I b 3 ∧ cpS I a b a 13 = I b 13
    unfold cpS
    simp (disch := omega) only [cpk_n, u3_n, u3_s]
    exact ⟨trivial, trivial, trivial, trivial⟩
  · show cpS I a b (a + 1) i = I (b + 1) i
    unfold cpS
    simp (disch := omega) only [cpk_n]
    exact cpk_s ⟨g1, g2⟩
  · show cpS I a b (a + f) j = I (b + f) j
    have hf : f = 2 ∨ f = 3 ∨ f = 4 ∨ f = 5 ∨ f = 6 ∨ f = 7 ∨ f = 8 ∨ f = 9 ∨ f = 10 ∨ f = 11 ∨ f = 12 := by omega
    unfold cpS
    rcases hf with rfl | rfl | rfl | rfl | rfl | rfl | rfl | rfl | rfl | rfl | rfl
    all_goals
      repeat rw [cpk_n (by omega)]
      exact cpk_s ⟨g1, g2⟩
  · unfold cpS
    simp (disch := omega) only [cpk_n, u3_c]
theorem cpL_ag : agL (rws I b) (rws (cpL I a b) a) ∧ ∀ x, (x < a ∨ a + 2 ≤ x) → cpL I a b x = I x := by
  refine ⟨⟨?_, fun i g1 g2 => ?_⟩, fun x hx => ?_⟩
  · show cpL I a b a 0 = I b 0 ∧ cpL I a b a 1 = I b 1 ∧ cpL I a b a 2 = I b 2 ∧ cpL I a b a 3 = I b 3 ∧ cpL I a b a 4 = I b 4
    unfold cpL
    simp (disch := omega) only [cpk_n, u3_n, u3_s]
    exact ⟨trivial, trivial, trivial, trivial, trivial⟩
  · show cpL I a b (a + 1) i = I (b + 1) i
    unfold cpL
    exact cpk_s ⟨g1, g2⟩
  · unfold cpL
    simp (disch := omega) only [cpk_n, u3_c]
theorem cpR_ag : agR (rws I b) (rws (cpR I a b) a) ∧ ∀ x, (x < a ∨ a + 3 ≤ x) → cpR I a b x = I x := by
  refine ⟨⟨?_, fun i g1 g2 => ?_, fun i g1 g2 => ?_⟩, fun x hx => ?_⟩
  · show cpR I a b a 0 = I b 0 ∧ cpR I a b a 1 = I b 1 ∧ cpR I a b a 2 = I b 2
    unfold cpR
    simp (disch := omega) only [cpk_n, u3_n, u3_s]
    exact ⟨trivial, trivial, trivial⟩
  · show cpR I a b (a + 1) i = I (b + 1) i
    unfold cpR
    rw [cpk_n (by omega)]
    exact cpk_s ⟨g1, g2⟩
  · show cpR I a b (a + 2) i = I (b + 2) i
    unfold cpR
    exact cpk_s ⟨g1, g2⟩
  · unfold cpR
    simp (disch := omega) only [cpk_n, u3_c]
theorem cpC_ag : agC (rws I b) (rws (cpC I a b) a) ∧ ∀ x, (x < a ∨ a + 2 ≤ x) → cpC I a b x = I x := by
  refine ⟨⟨?_, fun i g1 g2 => ?_⟩, fun x hx => ?_⟩
  · show cpC I a b a 0 = I b 0
    unfold cpC
    simp (disch := omega) only [cpk_n, u3_s]
  · show cpC I a b (a + 1) i = I (b + 1) i
    unfold cpC
    exact cpk_s ⟨g1, g2⟩
  · unfold cpC
    simp (disch := omega) only [cpk_n, u3_c]
end CP
/-- where a text is kept -/
def adT (lo : Nat) (s k : Int) : Nat := if s = 0 then lo + 8 + 20 * k.toNat else if s = 1 then lo + 21 + 20 * k.toNat else if s = 2 then lo + 23 + 20 * k.toNat else lo + 26 + 20 * k.toNat
def szT (s : Int) : Nat := if s = 0 then 13 else if s = 1 then 2 else if s = 2 then 3 else 2
def agD (s : Int) (S S' : Nat → Int → Int) : Prop := (s = 0 → agS S S') ∧ (s = 1 → agL S S') ∧ (s = 2 → agR S S') ∧ (s = 3 → agC S S')
def scA (lo : Nat) (s : Int) : Nat := if s = 0 then lo + 51 else if s = 1 then lo + 64 else if s = 2 then lo + 66 else lo + 69
def cpD (I : Nat → Int → Int) (s : Int) (a b : Nat) : Nat → Int → Int := if s = 0 then cpS I a b else if s = 1 then cpL I a b else if s = 2 then cpR I a b else cpC I a b
section KEEP
variable {E : (Nat → Value) × (Nat → Nat)} {lo d : Nat} {μ : rM} {I Z : Nat → Int → Int} {s k a n x : Int} {B : Int → Int}
theorem cpD_ag {a b : Nat} (hs : 0 ≤ s ∧ s < 4) : agD s (rws I b) (rws (cpD I s a b) a) ∧ ∀ x, (x < a ∨ a + szT s ≤ x) → cpD I s a b x = I x := by
  have hs' : s = 0 ∨ s = 1 ∨ s = 2 ∨ s = 3 := by omega
  rcases hs' with rfl | rfl | rfl | rfl
  · exact ⟨⟨fun _ => cpS_ag.1, fun z => absurd z (by decide), fun z => absurd z (by decide), fun z => absurd z (by decide)⟩, cpS_ag.2⟩
  · exact ⟨⟨fun z => absurd z (by decide), fun _ => cpL_ag.1, fun z => absurd z (by decide), fun z => absurd z (by decide)⟩, cpL_ag.2⟩
  · exact ⟨⟨fun z => absurd z (by decide), fun z => absurd z (by decide), fun _ => cpR_ag.1, fun z => absurd z (by decide)⟩, cpR_ag.2⟩
  · exact ⟨⟨fun z => absurd z (by decide), fun z => absurd z (by decide), fun z => absurd z (by decide), fun _ => cpC_ag.1⟩, cpC_ag.2⟩
theorem CO.sc (h : CO μ lo) : rk μ (lo + 49) = some (.inl 6) ∧ rr μ (lo + 49) 2 = some (lo + 51) ∧ rr μ (lo + 49) 3 = some (lo + 64) ∧ rr μ (lo + 49) 4 = some (lo + 66) ∧ rr μ (lo + 49) 5 = some (lo + 69) := ⟨h.1 (49, 0, 6, 0) (by decide +kernel), h.2.1 (49, 2, 51) (by decide +kernel), h.2.1 (49, 3, 64) (by decide +kernel), h.2.1 (49, 4, 66) (by decide +kernel), h.2.1 (49, 5, 69) (by decide +kernel)⟩
theorem CO.X (h : CO μ lo) : ShX μ (lo + 49) (lo + 2) := ⟨⟨h.sc.1, h.2.1 (49, 0, 71) (by decide +kernel), h.2.1 (49, 1, 50) (by decide +kernel), h.sc.2.1, h.sc.2.2.1, h.sc.2.2.2.1, h.sc.2.2.2.2⟩, h.1 (50, 1, 0, 6) (by decide +kernel), h.S51, h.L64, h.R66, h.C69, ⟨h.1 (71, 0, 4, 0) (by decide +kernel), h.2.1 (71, 0, 2) (by decide +kernel), h.1 (2, 1, 1, 600) (by decide +kernel), by omega⟩⟩
theorem adT_b (hs : 0 ≤ s ∧ s < 4) (hk : 0 ≤ k ∧ k < 2) : lo + 8 ≤ adT lo s k ∧ adT lo s k + szT s ≤ lo + 48 := by
  have hs' : s = 0 ∨ s = 1 ∨ s = 2 ∨ s = 3 := by omega
  unfold adT szT
  rcases hs' with rfl | rfl | rfl | rfl
  · rw [if_pos rfl, if_pos rfl]; omega
  · rw [if_neg (by decide), if_pos rfl, if_neg (by decide), if_pos rfl]; omega
  · rw [if_neg (by decide), if_neg (by decide), if_pos rfl, if_neg (by decide), if_neg (by decide), if_pos rfl]; omega
  · rw [if_neg (by decide), if_neg (by decide), if_neg (by decide), if_neg (by decide), if_neg (by decide), if_neg (by decide)]; omega
theorem kp_sp (hd : 2 ≤ d) (hC : CO μ lo) (hs : 0 ≤ s ∧ s < 4) (hk : 0 ≤ k ∧ k < 2) (hc : i32 (I (lo + 1 + 2) s)) (h4 : s = 1 → I (lo + 64) 4 = 0 ∨ I (lo + 64) 4 = 1) : cl E lo d 125 [.ref lo, .int (J (s)), .int (J (k))] (mj μ I) = some (none, mj μ (u3 (cpD I s (adT lo s k) (scA lo s)) (lo + 1 + 2) s (if I (lo + 1 + 2) s < k + 1 then k + 1 else I (lo + 1 + 2) s))) := by
  obtain ⟨d, rfl⟩ : ∃ e, d = e + 1 := ⟨d - 1, by omega⟩
  unfold i32 at hc
  obtain ⟨x0, x2, x3, x4, x5⟩ := hC.sc
  have hl1 : lo ≤ lo + 1 := by omega
  have hs' : s = 0 ∨ s = 1 ∨ s = 2 ∨ s = 3 := by omega
  obtain ⟨hO, f0, f1, f2, f3, f4, f5, f6, f7, f8, hD⟩ := CO.o hC
  rcases hs' with rfl | rfl | rfl | rfl
  · have g := hC.pS (x := k) hk
    have hA := hC.Sx (x := k) hk
    have e : cpS I (lo + 8 + 20 * k.toNat) (lo + 51) (lo + 1 + 2) = I (lo + 1 + 2) := cpS_ag.2 _ (by omega)
    have h1 := scp_sp (E := E) (lo := lo) (d := d) (I := I) (by omega) hA hC.S51 (by omega) (by omega)
    show _ = some (none, mj μ (u3 (cpS I (lo + 8 + 20 * k.toNat) (lo + 51)) (lo + 1 + 2) 0 (if I (lo + 1 + 2) 0 < k + 1 then k + 1 else I (lo + 1 + 2) 0)))
    simp (disch := omega) only [b125_0, b125_4, b125_23, b125_99, b125_123, e125, gO_k hO, gR_k f0, gR_k f1, gR_k f2, gR_k f3, gR_k f4, gR_k f5, gR_k f6, gR_k f7, gR_k f8, gO_D hD, gR_D0 hD, gR_D4 hD, gR_D5 hD, gR_D6 hD, gR_D7 hD, gR_D8 hD, al_D1 hD, al_D2 hD, al_D3 hD, al_D4 hD, al_D5 hD, al_D6 hD, rd_D1 hD, rd_D2 hD, rd_D3 hD, rd_D4 hD, rd_D5 hD, rd_D6 hD, gO_D hD, gR_D0 hD, gR_D4 hD, gR_D5 hD, gR_D6 hD, gR_D7 hD, gR_D8 hD, al_D1 hD, al_D2 hD, al_D3 hD, al_D4 hD, al_D5 hD, al_D6 hD, rd_D1 hD, rd_D2 hD, rd_D3 hD, rd_D4 hD, rd_D5 hD, rd_D6 hD, gP_D hD hl1, wr_D1 hD hl1, wr_D2 hD hl1, gO_k x0, gR_k x2, gR_k g, gO_S hA, gR_S2 hA, gR_S4 hA, gR_S5 hA, gR_S6 hA, gR_S7 hA, gR_S8 hA, gR_S9 hA, gR_S10 hA, gR_S11 hA, gR_S12 hA, gR_S14 hA, gR_S15 hA, al_S1 hA, al_S2 hA, al_S3 hA, al_S4 hA, al_S5 hA, al_S6 hA, al_S7 hA, al_S8 hA, al_S9 hA, al_S10 hA, al_S11 hA, al_S12 hA, rd_S1 hA, rd_S2 hA, rd_S3 hA, rd_S4 hA, rd_S5 hA, rd_S6 hA, rd_S7 hA, rd_S8 hA, rd_S9 hA, rd_S10 hA, rd_S11 hA, rd_S12 hA, h1, e, Jl0, Jl1, Jl2, Jl3, Jl4, Jl5, Jl6, Jl7, Jl8, Jl9, Jl10, Jl11, Jl12, Jl13, Jl14, Jl15, Jl16, Jl17, Jl18, Jl19, Jl20, Jl22, Jl24, Jl28, Jl30, Jl31, Jl32, Jl35, Jl36, Jl37, Jl38, Jl39, Jl40, Jl48, Jl57, Jl59, Jl60, Jl61, Jl63, Jl64, Jl68, Jl69, Jl96, Jl97, Jl98, Jl99, Jl100, Jl122, Jl149, Jl150, Jl165, Jl255, Jl511, Jl512, Jl600, Jl610, Jl940, Jl968, Jl999, Jl1134, Jl1152, Jl2048, Jl4608, Jl9999, Jl99999, Jl100000, Jl147456, Jl12345, Jl1103515245, Jl100000000, Jlm1, Jlm2, J_add, J_sub, J_mul, J_lt, J_le, J_eq, J_ite, J_cl, ri_j, wi_j, b2i_z, b2i_o, b2i_zo, Int.cast_ofNat_Int, Int.natCast_zero, Int.natCast_one, if_true, if_false, ite_self, Int.le_refl, J_bit, J_or, J_neg, J_oN, Int.reduceEq, Int.reduceLT, Int.reduceLE, Int.reduceNeg, Int.reduceAdd, Int.reduceSub, Int.reduceMul, Int.reduceToNat, J_shl, J_shr, V_ite, true_or, or_true, nz_j, J_div, J_rem, Option.bind_some, Option.toList_some, Option.toList_none, List.cons_append, List.nil_append, Jl21, Jl23, Jl25, Jl74, Jl83, Jl288, Jl324, Jl1800, Jlm8]
  · have g := hC.pL (x := k) hk
    have hA := hC.Lx (x := k) hk
    have e : cpL I (lo + 21 + 20 * k.toNat) (lo + 64) (lo + 1 + 2) = I (lo + 1 + 2) := cpL_ag.2 _ (by omega)
    have h1 := lcp_sp (E := E) (lo := lo) (d := d) (I := I) (by omega) hA hC.L64 (by omega) (by omega) (h4 rfl)
    show _ = some (none, mj μ (u3 (cpL I (lo + 21 + 20 * k.toNat) (lo + 64)) (lo + 1 + 2) 1 (if I (lo + 1 + 2) 1 < k + 1 then k + 1 else I (lo + 1 + 2) 1)))
    simp (disch := omega) only [b125_0, b125_26, b125_31, b125_50, b125_99, b125_123, e125, gO_k hO, gR_k f0, gR_k f1, gR_k f2, gR_k f3, gR_k f4, gR_k f5, gR_k f6, gR_k f7, gR_k f8, gO_D hD, gR_D0 hD, gR_D4 hD, gR_D5 hD, gR_D6 hD, gR_D7 hD, gR_D8 hD, al_D1 hD, al_D2 hD, al_D3 hD, al_D4 hD, al_D5 hD, al_D6 hD, rd_D1 hD, rd_D2 hD, rd_D3 hD, rd_D4 hD, rd_D5 hD, rd_D6 hD, gO_D hD, gR_D0 hD, gR_D4 hD, gR_D5 hD, gR_D6 hD, gR_D7 hD, gR_D8 hD, al_D1 hD, al_D2 hD, al_D3 hD, al_D4 hD, al_D5 hD, al_D6 hD, rd_D1 hD, rd_D2 hD, rd_D3 hD, rd_D4 hD, rd_D5 hD, rd_D6 hD, gP_D hD hl1, wr_D1 hD hl1, wr_D2 hD hl1, gO_k x0, gR_k x3, gR_k g, gO_L hA, gR_L5 hA, al_L1 hA, rd_L1 hA, h1, e, Jl0, Jl1, Jl2, Jl3, Jl4, Jl5, Jl6, Jl7, Jl8, Jl9, Jl10, Jl11, Jl12, Jl13, Jl14, Jl15, Jl16, Jl17, Jl18, Jl19, Jl20, Jl22, Jl24, Jl28, Jl30, Jl31, Jl32, Jl35, Jl36, Jl37, Jl38, Jl39, Jl40, Jl48, Jl57, Jl59, Jl60, Jl61, Jl63, Jl64, Jl68, Jl69, Jl96, Jl97, Jl98, Jl99, Jl100, Jl122, Jl149, Jl150, Jl165, Jl255, Jl511, Jl512, Jl600, Jl610, Jl940, Jl968, Jl999, Jl1134, Jl1152, Jl2048, Jl4608, Jl9999, Jl99999, Jl100000, Jl147456, Jl12345, Jl1103515245, Jl100000000, Jlm1, Jlm2, J_add, J_sub, J_mul, J_lt, J_le, J_eq, J_ite, J_cl, ri_j, wi_j, b2i_z, b2i_o, b2i_zo, Int.cast_ofNat_Int, Int.natCast_zero, Int.natCast_one, if_true, if_false, ite_self, Int.le_refl, J_bit, J_or, J_neg, J_oN, Int.reduceEq, Int.reduceLT, Int.reduceLE, Int.reduceNeg, Int.reduceAdd, Int.reduceSub, Int.reduceMul, Int.reduceToNat, J_shl, J_shr, V_ite, true_or, or_true, nz_j, J_div, J_rem, Option.bind_some, Option.toList_some, Option.toList_none, List.cons_append, List.nil_append, Jl21, Jl23, Jl25, Jl74, Jl83, Jl288, Jl324, Jl1800, Jlm8]
  · have g := hC.pR (x := k) hk
    have hA := hC.Rx (x := k) hk
    have e : cpR I (lo + 23 + 20 * k.toNat) (lo + 66) (lo + 1 + 2) = I (lo + 1 + 2) := cpR_ag.2 _ (by omega)
    have h1 := rcp_sp (E := E) (lo := lo) (d := d) (I := I) (by omega) hA hC.R66 (by omega) (by omega)
    show _ = some (none, mj μ (u3 (cpR I (lo + 23 + 20 * k.toNat) (lo + 66)) (lo + 1 + 2) 2 (if I (lo + 1 + 2) 2 < k + 1 then k + 1 else I (lo + 1 + 2) 2)))
    simp (disch := omega) only [b125_0, b125_26, b125_53, b125_58, b125_77, b125_99, b125_123, e125, gO_k hO, gR_k f0, gR_k f1, gR_k f2, gR_k f3, gR_k f4, gR_k f5, gR_k f6, gR_k f7, gR_k f8, gO_D hD, gR_D0 hD, gR_D4 hD, gR_D5 hD, gR_D6 hD, gR_D7 hD, gR_D8 hD, al_D1 hD, al_D2 hD, al_D3 hD, al_D4 hD, al_D5 hD, al_D6 hD, rd_D1 hD, rd_D2 hD, rd_D3 hD, rd_D4 hD, rd_D5 hD, rd_D6 hD, gO_D hD, gR_D0 hD, gR_D4 hD, gR_D5 hD, gR_D6 hD, gR_D7 hD, gR_D8 hD, al_D1 hD, al_D2 hD, al_D3 hD, al_D4 hD, al_D5 hD, al_D6 hD, rd_D1 hD, rd_D2 hD, rd_D3 hD, rd_D4 hD, rd_D5 hD, rd_D6 hD, gP_D hD hl1, wr_D1 hD hl1, wr_D2 hD hl1, gO_k x0, gR_k x4, gR_k g, gO_R hA, gR_R3 hA, gR_R4 hA, al_R1 hA, al_R2 hA, rd_R1 hA, rd_R2 hA, h1, e, Jl0, Jl1, Jl2, Jl3, Jl4, Jl5, Jl6, Jl7, Jl8, Jl9, Jl10, Jl11, Jl12, Jl13, Jl14, Jl15, Jl16, Jl17, Jl18, Jl19, Jl20, Jl22, Jl24, Jl28, Jl30, Jl31, Jl32, Jl35, Jl36, Jl37, Jl38, Jl39, Jl40, Jl48, Jl57, Jl59, Jl60, Jl61, Jl63, Jl64, Jl68, Jl69, Jl96, Jl97, Jl98, Jl99, Jl100, Jl122, Jl149, Jl150, Jl165, Jl255, Jl511, Jl512, Jl600, Jl610, Jl940, Jl968, Jl999, Jl1134, Jl1152, Jl2048, Jl4608, Jl9999, Jl99999, Jl100000, Jl147456, Jl12345, Jl1103515245, Jl100000000, Jlm1, Jlm2, J_add, J_sub, J_mul, J_lt, J_le, J_eq, J_ite, J_cl, ri_j, wi_j, b2i_z, b2i_o, b2i_zo, Int.cast_ofNat_Int, Int.natCast_zero, Int.natCast_one, if_true, if_false, ite_self, Int.le_refl, J_bit, J_or, J_neg, J_oN, Int.reduceEq, Int.reduceLT, Int.reduceLE, Int.reduceNeg, Int.reduceAdd, Int.reduceSub, Int.reduceMul, Int.reduceToNat, J_shl, J_shr, V_ite, true_or, or_true, nz_j, J_div, J_rem, Option.bind_some, Option.toList_some, Option.toList_none, List.cons_append, List.nil_append, Jl21, Jl23, Jl25, Jl74, Jl83, Jl288, Jl324, Jl1800, Jlm8]
  · have g := hC.pC (x := k) hk
    have hA := hC.Cx (x := k) hk
    have e : cpC I (lo + 26 + 20 * k.toNat) (lo + 69) (lo + 1 + 2) = I (lo + 1 + 2) := cpC_ag.2 _ (by omega)
    have h1 := ccp_sp (E := E) (lo := lo) (d := d) (I := I) (by omega) hA hC.C69 (by omega) (by omega)
    show _ = some (none, mj μ (u3 (cpC I (lo + 26 + 20 * k.toNat) (lo + 69)) (lo + 1 + 2) 3 (if I (lo + 1 + 2) 3 < k + 1 then k + 1 else I (lo + 1 + 2) 3)))
    simp (disch := omega) only [b125_0, b125_26, b125_53, b125_80, b125_99, b125_123, e125, gO_k hO, gR_k f0, gR_k f1, gR_k f2, gR_k f3, gR_k f4, gR_k f5, gR_k f6, gR_k f7, gR_k f8, gO_D hD, gR_D0 hD, gR_D4 hD, gR_D5 hD, gR_D6 hD, gR_D7 hD, gR_D8 hD, al_D1 hD, al_D2 hD, al_D3 hD, al_D4 hD, al_D5 hD, al_D6 hD, rd_D1 hD, rd_D2 hD, rd_D3 hD, rd_D4 hD, rd_D5 hD, rd_D6 hD, gO_D hD, gR_D0 hD, gR_D4 hD, gR_D5 hD, gR_D6 hD, gR_D7 hD, gR_D8 hD, al_D1 hD, al_D2 hD, al_D3 hD, al_D4 hD, al_D5 hD, al_D6 hD, rd_D1 hD, rd_D2 hD, rd_D3 hD, rd_D4 hD, rd_D5 hD, rd_D6 hD, gP_D hD hl1, wr_D1 hD hl1, wr_D2 hD hl1, gO_k x0, gR_k x5, gR_k g, gO_C hA, gR_C1 hA, al_C1 hA, rd_C1 hA, h1, e, Jl0, Jl1, Jl2, Jl3, Jl4, Jl5, Jl6, Jl7, Jl8, Jl9, Jl10, Jl11, Jl12, Jl13, Jl14, Jl15, Jl16, Jl17, Jl18, Jl19, Jl20, Jl22, Jl24, Jl28, Jl30, Jl31, Jl32, Jl35, Jl36, Jl37, Jl38, Jl39, Jl40, Jl48, Jl57, Jl59, Jl60, Jl61, Jl63, Jl64, Jl68, Jl69, Jl96, Jl97, Jl98, Jl99, Jl100, Jl122, Jl149, Jl150, Jl165, Jl255, Jl511, Jl512, Jl600, Jl610, Jl940, Jl968, Jl999, Jl1134, Jl1152, Jl2048, Jl4608, Jl9999, Jl99999, Jl100000, Jl147456, Jl12345, Jl1103515245, Jl100000000, Jlm1, Jlm2, J_add, J_sub, J_mul, J_lt, J_le, J_eq, J_ite, J_cl, ri_j, wi_j, b2i_z, b2i_o, b2i_zo, Int.cast_ofNat_Int, Int.natCast_zero, Int.natCast_one, if_true, if_false, ite_self, Int.le_refl, J_bit, J_or, J_neg, J_oN, Int.reduceEq, Int.reduceLT, Int.reduceLE, Int.reduceNeg, Int.reduceAdd, Int.reduceSub, Int.reduceMul, Int.reduceToNat, J_shl, J_shr, V_ite, true_or, or_true, nz_j, J_div, J_rem, Option.bind_some, Option.toList_some, Option.toList_none, List.cons_append, List.nil_append, Jl21, Jl23, Jl25, Jl74, Jl83, Jl288, Jl324, Jl1800, Jlm8]
def okC (I : Nat → Int → Int) (lo : Nat) (s a : Int) : Prop := (0 ≤ s ∧ s < 4) ∧ (if a = -1 then I (lo + 1 + 2) s < 2 else 0 ≤ a ∧ a < I (lo + 1 + 2) s)
def kC (I : Nat → Int → Int) (lo : Nat) (s a : Int) : Int := if a = -1 then I (lo + 1 + 2) s else a
theorem pf_y (hd : 2 ≤ d) (hC : CO μ lo) (hx : i32 s ∧ i32 a) (hc : ∀ s, 0 ≤ s → s < 4 → 0 ≤ I (lo + 1 + 2) s ∧ I (lo + 1 + 2) s ≤ 2) (hk : okC I lo s a) : cl E lo d 98 [.ref ((lo + 1)), .int (J (s)), .int (J (a))] (mj μ I) = some (some (.int (J (kC I lo s a))), mj μ I) ∧ (0 ≤ kC I lo s a ∧ kC I lo s a < 2) := by
  obtain ⟨d, rfl⟩ : ∃ e, d = e + 1 := ⟨d - 1, by omega⟩
  obtain ⟨hs, ho⟩ := hk
  have hcs := hc s hs.1 hs.2
  have hx' := hx
  unfold i32 at hx'
  have hD := hC.D1
  unfold kC
  by_cases q : a = -1
  · rw [if_pos q] at ho ⊢
    refine ⟨?_, by omega⟩
    simp (disch := omega) only [b98_0, b98_4, b98_11, b98_16, b98_26, b98_36, e98, gO_D hD, gR_D0 hD, gR_D4 hD, gR_D5 hD, gR_D6 hD, gR_D7 hD, gR_D8 hD, al_D1 hD, al_D2 hD, al_D3 hD, al_D4 hD, al_D5 hD, al_D6 hD, rd_D1 hD, rd_D2 hD, rd_D3 hD, rd_D4 hD, rd_D5 hD, rd_D6 hD, q, Jl0, Jl1, Jl2, Jl3, Jl4, Jl5, Jl6, Jl7, Jl8, Jl9, Jl10, Jl11, Jl12, Jl13, Jl14, Jl15, Jl16, Jl17, Jl18, Jl19, Jl20, Jl22, Jl24, Jl28, Jl30, Jl31, Jl32, Jl35, Jl36, Jl37, Jl38, Jl39, Jl40, Jl48, Jl57, Jl59, Jl60, Jl61, Jl63, Jl64, Jl68, Jl69, Jl96, Jl97, Jl98, Jl99, Jl100, Jl122, Jl149, Jl150, Jl165, Jl255, Jl511, Jl512, Jl600, Jl610, Jl940, Jl968, Jl999, Jl1134, Jl1152, Jl2048, Jl4608, Jl9999, Jl99999, Jl100000, Jl147456, Jl12345, Jl1103515245, Jl100000000, Jlm1, Jlm2, J_add, J_sub, J_mul, J_lt, J_le, J_eq, J_ite, J_cl, ri_j, wi_j, b2i_z, b2i_o, b2i_zo, Int.cast_ofNat_Int, Int.natCast_zero, Int.natCast_one, if_true, if_false, ite_self, Int.le_refl, J_bit, J_or, J_neg, J_oN, Int.reduceEq, Int.reduceLT, Int.reduceLE, Int.reduceNeg, Int.reduceAdd, Int.reduceSub, Int.reduceMul, Int.reduceToNat, J_shl, J_shr, V_ite, true_or, or_true, nz_j, J_div, J_rem, Option.bind_some, Option.toList_some, Option.toList_none, List.cons_append, List.nil_append, Jl21, Jl23, Jl25, Jl74, Jl83, Jl288, Jl324, Jl1800, Jlm8]
    repeat (first | rw [if_neg (by omega)] | rw [if_pos (by omega)])
  · rw [if_neg q] at ho ⊢
    refine ⟨?_, by omega⟩
    have hh := has_sp (E := E) (lo := lo) (d := d) (t := lo + 1) (I := I) (s := s) (x := a) (by omega) hD hs hx.2 hcs
    rw [decide_eq_true ho] at hh
    simp (disch := omega) only [b98_0, b98_4, b98_11, b98_37, b98_43, b98_46, b98_51, e98, gO_D hD, gR_D0 hD, gR_D4 hD, gR_D5 hD, gR_D6 hD, gR_D7 hD, gR_D8 hD, al_D1 hD, al_D2 hD, al_D3 hD, al_D4 hD, al_D5 hD, al_D6 hD, rd_D1 hD, rd_D2 hD, rd_D3 hD, rd_D4 hD, rd_D5 hD, rd_D6 hD, hh, b2i_t, Jl0, Jl1, Jl2, Jl3, Jl4, Jl5, Jl6, Jl7, Jl8, Jl9, Jl10, Jl11, Jl12, Jl13, Jl14, Jl15, Jl16, Jl17, Jl18, Jl19, Jl20, Jl22, Jl24, Jl28, Jl30, Jl31, Jl32, Jl35, Jl36, Jl37, Jl38, Jl39, Jl40, Jl48, Jl57, Jl59, Jl60, Jl61, Jl63, Jl64, Jl68, Jl69, Jl96, Jl97, Jl98, Jl99, Jl100, Jl122, Jl149, Jl150, Jl165, Jl255, Jl511, Jl512, Jl600, Jl610, Jl940, Jl968, Jl999, Jl1134, Jl1152, Jl2048, Jl4608, Jl9999, Jl99999, Jl100000, Jl147456, Jl12345, Jl1103515245, Jl100000000, Jlm1, Jlm2, J_add, J_sub, J_mul, J_lt, J_le, J_eq, J_ite, J_cl, ri_j, wi_j, b2i_z, b2i_o, b2i_zo, Int.cast_ofNat_Int, Int.natCast_zero, Int.natCast_one, if_true, if_false, ite_self, Int.le_refl, J_bit, J_or, J_neg, J_oN, Int.reduceEq, Int.reduceLT, Int.reduceLE, Int.reduceNeg, Int.reduceAdd, Int.reduceSub, Int.reduceMul, Int.reduceToNat, J_shl, J_shr, V_ite, true_or, or_true, nz_j, J_div, J_rem, Option.bind_some, Option.toList_some, Option.toList_none, List.cons_append, List.nil_append, Jl21, Jl23, Jl25, Jl74, Jl83, Jl288, Jl324, Jl1800, Jlm8]
    repeat (first | rw [if_neg (by omega)] | rw [if_pos (by omega)])
theorem pf_n (hd : 2 ≤ d) (hC : CO μ lo) (hx : i32 s ∧ i32 a) (hc : ∀ s, 0 ≤ s → s < 4 → 0 ≤ I (lo + 1 + 2) s ∧ I (lo + 1 + 2) s ≤ 2) (hk : ¬ okC I lo s a) : cl E lo d 98 [.ref ((lo + 1)), .int (J (s)), .int (J (a))] (mj μ I) = some (some (.int (J (-1))), mj μ I) := by
  obtain ⟨d, rfl⟩ : ∃ e, d = e + 1 := ⟨d - 1, by omega⟩
  have hx' := hx
  unfold i32 at hx'
  have hD := hC.D1
  by_cases hs : 0 ≤ s ∧ s < 4
  · have hcs := hc s hs.1 hs.2
    have ho : ¬ (if a = -1 then I (lo + 1 + 2) s < 2 else 0 ≤ a ∧ a < I (lo + 1 + 2) s) := fun z => hk ⟨hs, z⟩
    by_cases q : a = -1
    · rw [if_pos q] at ho
      simp (disch := omega) only [b98_0, b98_4, b98_11, b98_16, b98_35, b98_36, e98, gO_D hD, gR_D0 hD, gR_D4 hD, gR_D5 hD, gR_D6 hD, gR_D7 hD, gR_D8 hD, al_D1 hD, al_D2 hD, al_D3 hD, al_D4 hD, al_D5 hD, al_D6 hD, rd_D1 hD, rd_D2 hD, rd_D3 hD, rd_D4 hD, rd_D5 hD, rd_D6 hD, q, Jl0, Jl1, Jl2, Jl3, Jl4, Jl5, Jl6, Jl7, Jl8, Jl9, Jl10, Jl11, Jl12, Jl13, Jl14, Jl15, Jl16, Jl17, Jl18, Jl19, Jl20, Jl22, Jl24, Jl28, Jl30, Jl31, Jl32, Jl35, Jl36, Jl37, Jl38, Jl39, Jl40, Jl48, Jl57, Jl59, Jl60, Jl61, Jl63, Jl64, Jl68, Jl69, Jl96, Jl97, Jl98, Jl99, Jl100, Jl122, Jl149, Jl150, Jl165, Jl255, Jl511, Jl512, Jl600, Jl610, Jl940, Jl968, Jl999, Jl1134, Jl1152, Jl2048, Jl4608, Jl9999, Jl99999, Jl100000, Jl147456, Jl12345, Jl1103515245, Jl100000000, Jlm1, Jlm2, J_add, J_sub, J_mul, J_lt, J_le, J_eq, J_ite, J_cl, ri_j, wi_j, b2i_z, b2i_o, b2i_zo, Int.cast_ofNat_Int, Int.natCast_zero, Int.natCast_one, if_true, if_false, ite_self, Int.le_refl, J_bit, J_or, J_neg, J_oN, Int.reduceEq, Int.reduceLT, Int.reduceLE, Int.reduceNeg, Int.reduceAdd, Int.reduceSub, Int.reduceMul, Int.reduceToNat, J_shl, J_shr, V_ite, true_or, or_true, nz_j, J_div, J_rem, Option.bind_some, Option.toList_some, Option.toList_none, List.cons_append, List.nil_append, Jl21, Jl23, Jl25, Jl74, Jl83, Jl288, Jl324, Jl1800, Jlm8]
      repeat (first | rw [if_neg (by omega)] | rw [if_pos (by omega)])
    · rw [if_neg q] at ho
      have hh := has_sp (E := E) (lo := lo) (d := d) (t := lo + 1) (I := I) (s := s) (x := a) (by omega) hD hs hx.2 hcs
      rw [decide_eq_false ho] at hh
      simp (disch := omega) only [b98_0, b98_4, b98_11, b98_37, b98_43, b98_50, b98_51, e98, gO_D hD, gR_D0 hD, gR_D4 hD, gR_D5 hD, gR_D6 hD, gR_D7 hD, gR_D8 hD, al_D1 hD, al_D2 hD, al_D3 hD, al_D4 hD, al_D5 hD, al_D6 hD, rd_D1 hD, rd_D2 hD, rd_D3 hD, rd_D4 hD, rd_D5 hD, rd_D6 hD, hh, b2i_f, Jl0, Jl1, Jl2, Jl3, Jl4, Jl5, Jl6, Jl7, Jl8, Jl9, Jl10, Jl11, Jl12, Jl13, Jl14, Jl15, Jl16, Jl17, Jl18, Jl19, Jl20, Jl22, Jl24, Jl28, Jl30, Jl31, Jl32, Jl35, Jl36, Jl37, Jl38, Jl39, Jl40, Jl48, Jl57, Jl59, Jl60, Jl61, Jl63, Jl64, Jl68, Jl69, Jl96, Jl97, Jl98, Jl99, Jl100, Jl122, Jl149, Jl150, Jl165, Jl255, Jl511, Jl512, Jl600, Jl610, Jl940, Jl968, Jl999, Jl1134, Jl1152, Jl2048, Jl4608, Jl9999, Jl99999, Jl100000, Jl147456, Jl12345, Jl1103515245, Jl100000000, Jlm1, Jlm2, J_add, J_sub, J_mul, J_lt, J_le, J_eq, J_ite, J_cl, ri_j, wi_j, b2i_z, b2i_o, b2i_zo, Int.cast_ofNat_Int, Int.natCast_zero, Int.natCast_one, if_true, if_false, ite_self, Int.le_refl, J_bit, J_or, J_neg, J_oN, Int.reduceEq, Int.reduceLT, Int.reduceLE, Int.reduceNeg, Int.reduceAdd, Int.reduceSub, Int.reduceMul, Int.reduceToNat, J_shl, J_shr, V_ite, true_or, or_true, nz_j, J_div, J_rem, Option.bind_some, Option.toList_some, Option.toList_none, List.cons_append, List.nil_append, Jl21, Jl23, Jl25, Jl74, Jl83, Jl288, Jl324, Jl1800, Jlm8]
      repeat (first | rw [if_neg (by omega)] | rw [if_pos (by omega)])
  · by_cases s0 : s < 0
    · simp (disch := omega) only [b98_0, b98_9, e98, Jl0, Jl1, Jl2, Jl3, Jl4, Jl5, Jl6, Jl7, Jl8, Jl9, Jl10, Jl11, Jl12, Jl13, Jl14, Jl15, Jl16, Jl17, Jl18, Jl19, Jl20, Jl22, Jl24, Jl28, Jl30, Jl31, Jl32, Jl35, Jl36, Jl37, Jl38, Jl39, Jl40, Jl48, Jl57, Jl59, Jl60, Jl61, Jl63, Jl64, Jl68, Jl69, Jl96, Jl97, Jl98, Jl99, Jl100, Jl122, Jl149, Jl150, Jl165, Jl255, Jl511, Jl512, Jl600, Jl610, Jl940, Jl968, Jl999, Jl1134, Jl1152, Jl2048, Jl4608, Jl9999, Jl99999, Jl100000, Jl147456, Jl12345, Jl1103515245, Jl100000000, Jlm1, Jlm2, J_add, J_sub, J_mul, J_lt, J_le, J_eq, J_ite, J_cl, ri_j, wi_j, b2i_z, b2i_o, b2i_zo, Int.cast_ofNat_Int, Int.natCast_zero, Int.natCast_one, if_true, if_false, ite_self, Int.le_refl, J_bit, J_or, J_neg, J_oN, Int.reduceEq, Int.reduceLT, Int.reduceLE, Int.reduceNeg, Int.reduceAdd, Int.reduceSub, Int.reduceMul, Int.reduceToNat, J_shl, J_shr, V_ite, true_or, or_true, nz_j, J_div, J_rem, Option.bind_some, Option.toList_some, Option.toList_none, List.cons_append, List.nil_append, Jl21, Jl23, Jl25, Jl74, Jl83, Jl288, Jl324, Jl1800, Jlm8]
      repeat (first | rw [if_neg (by omega)] | rw [if_pos (by omega)])
    · simp (disch := omega) only [b98_0, b98_4, b98_9, e98, Jl0, Jl1, Jl2, Jl3, Jl4, Jl5, Jl6, Jl7, Jl8, Jl9, Jl10, Jl11, Jl12, Jl13, Jl14, Jl15, Jl16, Jl17, Jl18, Jl19, Jl20, Jl22, Jl24, Jl28, Jl30, Jl31, Jl32, Jl35, Jl36, Jl37, Jl38, Jl39, Jl40, Jl48, Jl57, Jl59, Jl60, Jl61, Jl63, Jl64, Jl68, Jl69, Jl96, Jl97, Jl98, Jl99, Jl100, Jl122, Jl149, Jl150, Jl165, Jl255, Jl511, Jl512, Jl600, Jl610, Jl940, Jl968, Jl999, Jl1134, Jl1152, Jl2048, Jl4608, Jl9999, Jl99999, Jl100000, Jl147456, Jl12345, Jl1103515245, Jl100000000, Jlm1, Jlm2, J_add, J_sub, J_mul, J_lt, J_le, J_eq, J_ite, J_cl, ri_j, wi_j, b2i_z, b2i_o, b2i_zo, Int.cast_ofNat_Int, Int.natCast_zero, Int.natCast_one, if_true, if_false, ite_self, Int.le_refl, J_bit, J_or, J_neg, J_oN, Int.reduceEq, Int.reduceLT, Int.reduceLE, Int.reduceNeg, Int.reduceAdd, Int.reduceSub, Int.reduceMul, Int.reduceToNat, J_shl, J_shr, V_ite, true_or, or_true, nz_j, J_div, J_rem, Option.bind_some, Option.toList_some, Option.toList_none, List.cons_append, List.nil_append, Jl21, Jl23, Jl25, Jl74, Jl83, Jl288, Jl324, Jl1800, Jlm8]
      repeat (first | rw [if_neg (by omega)] | rw [if_pos (by omega)])
end KEEP
