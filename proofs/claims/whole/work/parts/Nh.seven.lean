/-! THE CLASS: seven -/
theorem svQ_n {F : Int → Int} {N : Int} (hN : 1 ≤ N) (hF : ∀ c, 0 ≤ c → c < N → 0 ≤ F c) : 0 ≤ (svQ F N).1 := by
  have key : (N = 0 → (svQ F N).1 = -1) ∧ (0 < N → 0 ≤ (svQ F N).1) := by
    refine fo_ind (fun i (p : Int × Int) => (i = 0 → p.1 = -1) ∧ (0 < i → 0 ≤ p.1)) _ _ (by omega) ⟨fun _ => rfl, fun z => by omega⟩ (fun i p q1 q2 q3 => ?_)
    have := hF i q1 q2
    refine ⟨fun z => by omega, fun _ => ?_⟩
    by_cases c : p.1 = -1 ∨ F i < p.1
    · rw [if_pos c]; exact this
    · rw [if_neg c]
      by_cases c0 : i = 0
      · exact absurd (Or.inl (q3.1 c0)) c
      · exact q3.2 (by omega)
  exact key.2 (by omega)
theorem FQ_w84 {lo s : Nat} {μ : rM} {I : Nat → Int → Int} : FQ lo μ I (wr μ (lo + 84) 0 (some s)) I := ⟨⟨rfl, rfl, rfl, fun a f h => by rw [rr_wr, if_neg (fun z => h (Or.inl ⟨z.1, by omega⟩))], fun h => by
  unfold WN at *
  rw [rr_wr, rr_wr, if_neg (by omega), if_neg (by omega)]
  exact h⟩, fun _ _ => rfl, id⟩
section CLASS
variable {E : (Nat → Value) × (Nat → Nat)} {lo d s l t : Nat} {μ : rM} {I S L T R : Nat → Int → Int} {x y z w k u h a b n : Int}
theorem fsv_sp (hd : 13 ≤ d) (hC : CO μ lo) (hN : NO μ I lo s l t S L T) (hZ : TZ T) (hs : s + 13 ≤ lo + 84 ∧ l + 2 ≤ lo + 84 ∧ t + 5 ≤ lo + 84) (hls : lo ≤ s) (hn : S 0 3 ≤ 5) : ∃ μ2 I2, cl E lo d 33 [.ref ((lo + 102))] (mj μ I) = some (none, mj μ2 I2) ∧ FQ lo μ I μ2 I2 ∧ I2 (lo + 102) 2 = (svQ (fun c => F7 S L T (lsQ (S 0 3) c)) (p9 (S 0 3))).1 ∧ ∀ j, 0 ≤ j → j < S 0 3 → I2 (lo + 102 + 14) j = lsQ (S 0 3) (svQ (fun c => F7 S L T (lsQ (S 0 3) c)) (p9 (S 0 3))).2 j := by
  obtain ⟨d, rfl⟩ : ∃ e, d = e + 1 := ⟨d - 1, by omega⟩
  have hNC := hN.1
  obtain ⟨hNi, h0, h1, h2, hS, hV, hL, hLV, hT, hTV, hA, hDV, hSi⟩ := id hNC
  have v := hV.1
  obtain ⟨p0, p1⟩ := hC.p
  have hP := hC.P102
  have hS3 := hC.S103
  have hlN : lo ≤ lo + 84 := by omega
  have hlP : lo ≤ lo + 102 := by omega
  have hcp := scp_sp (E := E) (lo := lo) (d := d) (I := I) (a := lo + 103) (b := s) (by omega) hS3 hS.1 ⟨by omega, hls⟩ (by omega)
  obtain ⟨⟨g0, g1, g2⟩, gf⟩ := cpS_ag (I := I) (a := lo + 103) (b := s)
  obtain ⟨I1, eI1⟩ : ∃ I1, I1 = cpS I (lo + 103) s := ⟨_, rfl⟩
  rw [← eI1] at hcp g0 g1 g2 gf
  have hC1 : CO (wr μ (lo + 84) 0 (some (lo + 103))) lo := (FQ_w84 (I := I)).C hC
  obtain ⟨μ1, eμ⟩ : ∃ μ1, μ1 = wr μ (lo + 84) 0 (some (lo + 103)) := ⟨_, rfl⟩
  have rr1 : ∀ a f, ¬ (a = lo + 84 ∧ f = 0) → rr μ1 a f = rr μ a f := fun a f q => by rw [eμ, rr_wr, if_neg q]
  have rr0 : rr μ1 (lo + 84) 0 = some (lo + 103) := by rw [eμ, rr_wr, if_pos ⟨rfl, rfl⟩]
  have rk1 : rk μ1 = rk μ := by rw [eμ]; rfl
  rw [← eμ] at hC1
  have fqm : FQ lo μ I μ1 I := by rw [eμ]; exact FQ_w84
  -- the street is the changed one
  have f0 : ∀ j, rws I s 0 j = S 0 j := fun j => by rw [show rws I s 0 = S 0 from hS.2 0 (by omega)]
  have ff : ∀ f : Nat, 1 ≤ f → f < 13 → ∀ j, rws I s f j = S f j := fun f q1 q2 j => by rw [show rws I s f = S f from hS.2 f (by omega)]
  have ag : agW (S8 S (I1 (lo + 103 + 5)) (I1 (lo + 103 + 6))) (rws I1 (lo + 103)) := by
    refine ⟨⟨by rw [g0.1, f0]; rfl, by rw [g0.2.1, f0]; rfl, by rw [g0.2.2.1, f0]; rfl, by rw [g0.2.2.2, f0]; rfl⟩, fun i q1 q2 => by rw [g1 i q1 q2, ff 1 (by omega) (by omega)]; rfl, fun f q1 q2 j q3 q4 => ?_, fun i q1 q2 => ?_⟩
    · have q4' : j < S 0 3 := q4
      by_cases c5 : f = 5
      · subst c5; rfl
      · by_cases c6 : f = 6
        · subst c6; rfl
        · rw [g2 f q1 (by omega) j q3 (by omega), ff f (by omega) (by omega)]
          unfold S8
          rw [if_neg c5, if_neg c6]
    · have q2' : i < S 0 13 := q2
      exact ⟨by rw [g2 11 (by omega) (by omega) i q1 (by omega), ff 11 (by omega) (by omega)]; rfl, by rw [g2 12 (by omega) (by omega) i q1 (by omega), ff 12 (by omega) (by omega)]; rfl⟩
  have hpq : ∀ k, 0 ≤ k → k < S 0 3 → (0 ≤ I1 (lo + 103 + 5) k ∧ I1 (lo + 103 + 5) k ≤ 35) ∧ (1 ≤ I1 (lo + 103 + 6) k ∧ I1 (lo + 103 + 6) k ≤ 36 ∧ I1 (lo + 103 + 5) k < I1 (lo + 103 + 6) k) := fun k q1 q2 => by
    have e5 : I1 (lo + 103 + 5) k = S 5 k := by
      have := g2 5 (by omega) (by omega) k q1 (by omega)
      rw [ff 5 (by omega) (by omega)] at this
      exact this
    have e6 : I1 (lo + 103 + 6) k = S 6 k := by
      have := g2 6 (by omega) (by omega) k q1 (by omega)
      rw [ff 6 (by omega) (by omega)] at this
      exact this
    rw [e5, e6]
    have := hV.2.2.1 k q1 q2
    exact ⟨this.2.2.2.1, this.2.2.2.2.1⟩
  have h71 : V7 μ1 I1 lo l t S L T := by
    refine ⟨⟨hC1.N84, rr0, by rw [rr1 _ _ (by omega)]; exact h1, by rw [rr1 _ _ (by omega)]; exact h2, rws_S hC1.S103, agW_V ag (S8_V hV hpq), ⟨ShL_m hL.1 rk1 (fun f => rr1 _ _ (by omega)), (hL.fr (fun a _ _ => gf a (by omega))).2⟩, hLV, ⟨ShT_m hT.1 rk1 (fun f => rr1 _ _ (by omega)), (hT.fr (fun a _ _ => gf a (by omega))).2⟩, hTV, by omega, by rw [gf _ (by omega)]; exact hDV, by rw [gf _ (by omega)]; exact hSi⟩, ag, hpq, fun k q1 q2 => by rw [gf _ (by omega)]; exact hN.2.2.1 k q1 q2⟩
  obtain ⟨p0', p1'⟩ := hC1.p
  have hP1 := hC1.P102
  have hS31 := hC1.S103
  have n3 : ∀ I', V7 μ1 I' lo l t S L T → I' (lo + 103) 3 = S 0 3 := fun I' h => h.2.1.1.2.2.1
  have hs2 : l + 2 ≤ lo + 84 ∧ t + 5 ≤ lo + 84 := hs.2
  -- tables
  obtain ⟨I2, e2, a1, a2, a3, a4⟩ := loop (fun k (I' : Nat → Int → Int) => ex PG E lo d 33 27 [some (.ref ((lo + 102))), some (.int (J (k)))] [] (mj μ1 I')) (fun k I' => V7 μ1 I' lo l t S L T ∧ (∀ a, a ≠ lo + 103 + 5 → a ≠ lo + 103 + 6 → a ≠ lo + 84 + 14 → a ≠ lo + 102 + 17 → I' a = I1 a) ∧ (∀ j u, 0 ≤ j → j < k → 0 ≤ u → u < 36 → (∀ li, 0 ≤ li → li < 9 → I' (lo + 102 + 17) ((j * 10 + li) * 36 + u) = LAQ S T j li u) ∧ I' (lo + 102 + 17) ((j * 10 + 9) * 36 + u) = DZQ S T j u) ∧ (∀ j u, 0 ≤ j → j < k → 0 ≤ u → u < 36 → I' (lo + 84 + 14) (j * 36 + u) = DZQ S T j u)) (a := 0) (n := S 0 3) (fun k I' q1 q2 hQ => by
    obtain ⟨b1, b2, b3, b4⟩ := hQ
    obtain ⟨I3, e3, c1, c2, c3, c4, c5, c6⟩ := rl_sp (E := E) (lo := lo) (d := d) (by omega) hC1 hV hs2 b1 ⟨q1, q2, hn⟩
    have i3 := n3 I' b1
    refine ⟨I3, ?_, c1, fun a z1 z2 z3 z4 => by rw [c2 a z1 z2 z3 z4]; exact b2 a z1 z2 z3 z4, fun j u z1 z2 z3 z4 => ?_, fun j u z1 z2 z3 z4 => ?_⟩
    · rw [b33_27]
      simp (disch := omega) only [b33_38, b33_43, b33_48, gO_P hP1, gR_P4 hP1, gR_P6 hP1, gR_P7 hP1, gR_P8 hP1, gR_P9 hP1, gR_P10 hP1, al_P14 hP1, al_P15 hP1, al_P16 hP1, al_P17 hP1, al_P18 hP1, al_P19 hP1, rd_P14 hP1, rd_P15 hP1, rd_P16 hP1, rd_P17 hP1, rd_P18 hP1, rd_P19 hP1, gR_k p1', gO_S hS31, gR_S2 hS31, gR_S4 hS31, gR_S5 hS31, gR_S6 hS31, gR_S7 hS31, gR_S8 hS31, gR_S9 hS31, gR_S10 hS31, gR_S11 hS31, gR_S12 hS31, gR_S14 hS31, gR_S15 hS31, al_S1 hS31, al_S2 hS31, al_S3 hS31, al_S4 hS31, al_S5 hS31, al_S6 hS31, al_S7 hS31, al_S8 hS31, al_S9 hS31, al_S10 hS31, al_S11 hS31, al_S12 hS31, rd_S1 hS31, rd_S2 hS31, rd_S3 hS31, rd_S4 hS31, rd_S5 hS31, rd_S6 hS31, rd_S7 hS31, rd_S8 hS31, rd_S9 hS31, rd_S10 hS31, rd_S11 hS31, rd_S12 hS31, i3, e3, Jl0, Jl1, Jl2, Jl3, Jl4, Jl5, Jl6, Jl7, Jl8, Jl9, Jl10, Jl11, Jl12, Jl13, Jl14, Jl15, Jl16, Jl17, Jl18, Jl19, Jl20, Jl22, Jl24, Jl28, Jl30, Jl31, Jl32, Jl35, Jl36, Jl37, Jl38, Jl39, Jl40, Jl48, Jl57, Jl59, Jl60, Jl61, Jl63, Jl64, Jl68, Jl69, Jl96, Jl97, Jl98, Jl99, Jl100, Jl122, Jl149, Jl150, Jl165, Jl255, Jl511, Jl512, Jl600, Jl610, Jl940, Jl968, Jl999, Jl1134, Jl1152, Jl2048, Jl4608, Jl9999, Jl99999, Jl100000, Jl147456, Jl12345, Jl1103515245, Jl100000000, Jlm1, Jlm2, J_add, J_sub, J_mul, J_lt, J_le, J_eq, J_ite, J_cl, ri_j, wi_j, b2i_z, b2i_o, b2i_zo, Int.cast_ofNat_Int, Int.natCast_zero, Int.natCast_one, if_true, if_false, ite_self, Int.le_refl, J_bit, J_or, J_neg, J_oN, Int.reduceEq, Int.reduceLT, Int.reduceLE, Int.reduceNeg, Int.reduceAdd, Int.reduceSub, Int.reduceMul, Int.reduceToNat, J_shl, J_shr, V_ite, true_or, or_true, nz_j, J_div, J_rem, Option.bind_some, Option.toList_some, Option.toList_none, List.cons_append, List.nil_append, Jl21, Jl23, Jl25, Jl74, Jl83, Jl288, Jl324, Jl1800, Jlm8]
      repeat (first | rw [if_neg (by omega)] | rw [if_pos (by omega)])
    · by_cases c : j = k
      · rw [c]
        exact ⟨fun li y1 y2 => c3 li u y1 y2 z3 z4, c4 u z3 z4⟩
      · have z := b3 j u z1 (by omega) z3 z4
        exact ⟨fun li y1 y2 => by rw [c5 _ (by omega)]; exact z.1 li y1 y2, by rw [c5 _ (by omega)]; exact z.2⟩
    · rw [c6 j u z3 z4]
      by_cases c : j = k
      · rw [if_pos c, c]
      · rw [if_neg c]; exact b4 j u z1 (by omega) z3 z4) (by omega) I1 ⟨h71, fun _ _ _ _ _ => rfl, fun j u z1 z2 => by omega, fun j u z1 z2 => by omega⟩
  -- each one alone
  obtain ⟨I3, e3, c1, c2, c3, c4⟩ := loop (fun k (I' : Nat → Int → Int) => ex PG E lo d 33 56 [some (.ref ((lo + 102))), some (.int (J (k)))] [] (mj μ1 I')) (fun k I' => V7 μ1 I' lo l t S L T ∧ (∀ a, a ≠ lo + 84 + 14 → a ≠ lo + 84 + 16 → a ≠ lo + 84 + 17 → a ≠ lo + 102 + 18 → I' a = I2 a) ∧ (∀ j u, 0 ≤ j → j < S 0 3 → 0 ≤ u → u < 36 → I' (lo + 84 + 14) (j * 36 + u) = DZQ S T j u) ∧ ∀ j, 0 ≤ j → j < k → I' (lo + 102 + 18) j = alQ7 S L T (siS S) j) (a := 0) (n := S 0 3) (fun k I' q1 q2 hQ => by
    obtain ⟨b1, b2, b3, b4⟩ := hQ
    have hLT : LT I' lo S T := LT_fr (I := I2) (fun j u z1 z2 z3 z4 => a3 j u z1 z2 z3 z4) (b2 _ (by omega) (by omega) (by omega) (by omega))
    obtain ⟨I4, e4, y1, y2, y3, y4, y5⟩ := ra_sp (E := E) (lo := lo) (d := d) (by omega) hC1 hV hs2 b1 hLT b3 ⟨q1, q2, hn⟩
    have i3 := n3 I' b1
    refine ⟨I4, ?_, y1, fun a z1 z2 z3 z4 => by rw [y3 a z1 z2 z3 z4]; exact b2 a z1 z2 z3 z4, y2, fun j z1 z2 => ?_⟩
    · rw [b33_56]
      simp (disch := omega) only [b33_67, b33_72, b33_77, gO_P hP1, gR_P4 hP1, gR_P6 hP1, gR_P7 hP1, gR_P8 hP1, gR_P9 hP1, gR_P10 hP1, al_P14 hP1, al_P15 hP1, al_P16 hP1, al_P17 hP1, al_P18 hP1, al_P19 hP1, rd_P14 hP1, rd_P15 hP1, rd_P16 hP1, rd_P17 hP1, rd_P18 hP1, rd_P19 hP1, gR_k p1', gO_S hS31, gR_S2 hS31, gR_S4 hS31, gR_S5 hS31, gR_S6 hS31, gR_S7 hS31, gR_S8 hS31, gR_S9 hS31, gR_S10 hS31, gR_S11 hS31, gR_S12 hS31, gR_S14 hS31, gR_S15 hS31, al_S1 hS31, al_S2 hS31, al_S3 hS31, al_S4 hS31, al_S5 hS31, al_S6 hS31, al_S7 hS31, al_S8 hS31, al_S9 hS31, al_S10 hS31, al_S11 hS31, al_S12 hS31, rd_S1 hS31, rd_S2 hS31, rd_S3 hS31, rd_S4 hS31, rd_S5 hS31, rd_S6 hS31, rd_S7 hS31, rd_S8 hS31, rd_S9 hS31, rd_S10 hS31, rd_S11 hS31, rd_S12 hS31, i3, e4, Jl0, Jl1, Jl2, Jl3, Jl4, Jl5, Jl6, Jl7, Jl8, Jl9, Jl10, Jl11, Jl12, Jl13, Jl14, Jl15, Jl16, Jl17, Jl18, Jl19, Jl20, Jl22, Jl24, Jl28, Jl30, Jl31, Jl32, Jl35, Jl36, Jl37, Jl38, Jl39, Jl40, Jl48, Jl57, Jl59, Jl60, Jl61, Jl63, Jl64, Jl68, Jl69, Jl96, Jl97, Jl98, Jl99, Jl100, Jl122, Jl149, Jl150, Jl165, Jl255, Jl511, Jl512, Jl600, Jl610, Jl940, Jl968, Jl999, Jl1134, Jl1152, Jl2048, Jl4608, Jl9999, Jl99999, Jl100000, Jl147456, Jl12345, Jl1103515245, Jl100000000, Jlm1, Jlm2, J_add, J_sub, J_mul, J_lt, J_le, J_eq, J_ite, J_cl, ri_j, wi_j, b2i_z, b2i_o, b2i_zo, Int.cast_ofNat_Int, Int.natCast_zero, Int.natCast_one, if_true, if_false, ite_self, Int.le_refl, J_bit, J_or, J_neg, J_oN, Int.reduceEq, Int.reduceLT, Int.reduceLE, Int.reduceNeg, Int.reduceAdd, Int.reduceSub, Int.reduceMul, Int.reduceToNat, J_shl, J_shr, V_ite, true_or, or_true, nz_j, J_div, J_rem, Option.bind_some, Option.toList_some, Option.toList_none, List.cons_append, List.nil_append, Jl21, Jl23, Jl25, Jl74, Jl83, Jl288, Jl324, Jl1800, Jlm8]
      repeat (first | rw [if_neg (by omega)] | rw [if_pos (by omega)])
    · by_cases c : j = k
      · rw [c]; exact y4
      · rw [y5 j c]; exact b4 j z1 (by omega)) (by omega) I2 ⟨a1, fun _ _ _ _ _ => rfl, a4, fun j z1 z2 => by omega⟩
  have i13 := n3 I1 h71
  have i23 := n3 I2 a1
  have i33 := n3 I3 c1
  have hLT3 : LT I3 lo S T := LT_fr (I := I2) (fun j u z1 z2 z3 z4 => a3 j u z1 z2 z3 z4) (c2 _ (by omega) (by omega) (by omega) (by omega))
  have s1 : cl E lo (d + 1) 33 [.ref (lo + 102)] (mj μ I) = ex PG E lo d 33 83 [some (.ref ((lo + 102))), some (.int (J ((S 0 3))))] [] (mj μ1 I3) := by
    have s2 : cl E lo (d + 1) 33 [.ref (lo + 102)] (mj μ I) = ex PG E lo d 33 27 [some (.ref ((lo + 102))), some (.int (J (0)))] [] (mj μ1 I1) := by
      simp (disch := omega) only [b33_0, b33_14, b33_25, e33, gO_P hP, gR_P4 hP, gR_P6 hP, gR_P7 hP, gR_P8 hP, gR_P9 hP, gR_P10 hP, al_P14 hP, al_P15 hP, al_P16 hP, al_P17 hP, al_P18 hP, al_P19 hP, rd_P14 hP, rd_P15 hP, rd_P16 hP, rd_P17 hP, rd_P18 hP, rd_P19 hP, gR_k p0, gR_k p1, gO_N hNi, gR_N3 hNi, gR_N4 hNi, gR_N5 hNi, gR_N6 hNi, al_N14 hNi, al_N15 hNi, al_N16 hNi, al_N17 hNi, rd_N14 hNi, rd_N15 hNi, rd_N16 hNi, rd_N17 hNi, gP_N hNi hlN, wr_N14 hNi hlN, wr_N15 hNi hlN, wr_N16 hNi hlN, wr_N17 hNi hlN, gR_k h0, gO_S hS3, gR_S2 hS3, gR_S4 hS3, gR_S5 hS3, gR_S6 hS3, gR_S7 hS3, gR_S8 hS3, gR_S9 hS3, gR_S10 hS3, gR_S11 hS3, gR_S12 hS3, gR_S14 hS3, gR_S15 hS3, al_S1 hS3, al_S2 hS3, al_S3 hS3, al_S4 hS3, al_S5 hS3, al_S6 hS3, al_S7 hS3, al_S8 hS3, al_S9 hS3, al_S10 hS3, al_S11 hS3, al_S12 hS3, rd_S1 hS3, rd_S2 hS3, rd_S3 hS3, rd_S4 hS3, rd_S5 hS3, rd_S6 hS3, rd_S7 hS3, rd_S8 hS3, rd_S9 hS3, rd_S10 hS3, rd_S11 hS3, rd_S12 hS3, hcp, wr_j, eμ.symm, Jl0, Jl1, Jl2, Jl3, Jl4, Jl5, Jl6, Jl7, Jl8, Jl9, Jl10, Jl11, Jl12, Jl13, Jl14, Jl15, Jl16, Jl17, Jl18, Jl19, Jl20, Jl22, Jl24, Jl28, Jl30, Jl31, Jl32, Jl35, Jl36, Jl37, Jl38, Jl39, Jl40, Jl48, Jl57, Jl59, Jl60, Jl61, Jl63, Jl64, Jl68, Jl69, Jl96, Jl97, Jl98, Jl99, Jl100, Jl122, Jl149, Jl150, Jl165, Jl255, Jl511, Jl512, Jl600, Jl610, Jl940, Jl968, Jl999, Jl1134, Jl1152, Jl2048, Jl4608, Jl9999, Jl99999, Jl100000, Jl147456, Jl12345, Jl1103515245, Jl100000000, Jlm1, Jlm2, J_add, J_sub, J_mul, J_lt, J_le, J_eq, J_ite, J_cl, ri_j, wi_j, b2i_z, b2i_o, b2i_zo, Int.cast_ofNat_Int, Int.natCast_zero, Int.natCast_one, if_true, if_false, ite_self, Int.le_refl, J_bit, J_or, J_neg, J_oN, Int.reduceEq, Int.reduceLT, Int.reduceLE, Int.reduceNeg, Int.reduceAdd, Int.reduceSub, Int.reduceMul, Int.reduceToNat, J_shl, J_shr, V_ite, true_or, or_true, nz_j, J_div, J_rem, Option.bind_some, Option.toList_some, Option.toList_none, List.cons_append, List.nil_append, Jl21, Jl23, Jl25, Jl74, Jl83, Jl288, Jl324, Jl1800, Jlm8]
    have s3 : ex PG E lo d 33 27 [some (.ref ((lo + 102))), some (.int (J ((S 0 3))))] [] (mj μ1 I2) = ex PG E lo d 33 56 [some (.ref ((lo + 102))), some (.int (J (0)))] [] (mj μ1 I2) := by
      rw [b33_27]
      simp (disch := omega) only [b33_54, gO_P hP1, gR_P4 hP1, gR_P6 hP1, gR_P7 hP1, gR_P8 hP1, gR_P9 hP1, gR_P10 hP1, al_P14 hP1, al_P15 hP1, al_P16 hP1, al_P17 hP1, al_P18 hP1, al_P19 hP1, rd_P14 hP1, rd_P15 hP1, rd_P16 hP1, rd_P17 hP1, rd_P18 hP1, rd_P19 hP1, gR_k p1', gO_S hS31, gR_S2 hS31, gR_S4 hS31, gR_S5 hS31, gR_S6 hS31, gR_S7 hS31, gR_S8 hS31, gR_S9 hS31, gR_S10 hS31, gR_S11 hS31, gR_S12 hS31, gR_S14 hS31, gR_S15 hS31, al_S1 hS31, al_S2 hS31, al_S3 hS31, al_S4 hS31, al_S5 hS31, al_S6 hS31, al_S7 hS31, al_S8 hS31, al_S9 hS31, al_S10 hS31, al_S11 hS31, al_S12 hS31, rd_S1 hS31, rd_S2 hS31, rd_S3 hS31, rd_S4 hS31, rd_S5 hS31, rd_S6 hS31, rd_S7 hS31, rd_S8 hS31, rd_S9 hS31, rd_S10 hS31, rd_S11 hS31, rd_S12 hS31, i23, Jl0, Jl1, Jl2, Jl3, Jl4, Jl5, Jl6, Jl7, Jl8, Jl9, Jl10, Jl11, Jl12, Jl13, Jl14, Jl15, Jl16, Jl17, Jl18, Jl19, Jl20, Jl22, Jl24, Jl28, Jl30, Jl31, Jl32, Jl35, Jl36, Jl37, Jl38, Jl39, Jl40, Jl48, Jl57, Jl59, Jl60, Jl61, Jl63, Jl64, Jl68, Jl69, Jl96, Jl97, Jl98, Jl99, Jl100, Jl122, Jl149, Jl150, Jl165, Jl255, Jl511, Jl512, Jl600, Jl610, Jl940, Jl968, Jl999, Jl1134, Jl1152, Jl2048, Jl4608, Jl9999, Jl99999, Jl100000, Jl147456, Jl12345, Jl1103515245, Jl100000000, Jlm1, Jlm2, J_add, J_sub, J_mul, J_lt, J_le, J_eq, J_ite, J_cl, ri_j, wi_j, b2i_z, b2i_o, b2i_zo, Int.cast_ofNat_Int, Int.natCast_zero, Int.natCast_one, if_true, if_false, ite_self, Int.le_refl, J_bit, J_or, J_neg, J_oN, Int.reduceEq, Int.reduceLT, Int.reduceLE, Int.reduceNeg, Int.reduceAdd, Int.reduceSub, Int.reduceMul, Int.reduceToNat, J_shl, J_shr, V_ite, true_or, or_true, nz_j, J_div, J_rem, Option.bind_some, Option.toList_some, Option.toList_none, List.cons_append, List.nil_append, Jl21, Jl23, Jl25, Jl74, Jl83, Jl288, Jl324, Jl1800, Jlm8]
    have s4 : ex PG E lo d 33 56 [some (.ref ((lo + 102))), some (.int (J ((S 0 3))))] [] (mj μ1 I3) = ex PG E lo d 33 83 [some (.ref ((lo + 102))), some (.int (J ((S 0 3))))] [] (mj μ1 I3) := by
      rw [b33_56]
      simp (disch := omega) only [gO_P hP1, gR_P4 hP1, gR_P6 hP1, gR_P7 hP1, gR_P8 hP1, gR_P9 hP1, gR_P10 hP1, al_P14 hP1, al_P15 hP1, al_P16 hP1, al_P17 hP1, al_P18 hP1, al_P19 hP1, rd_P14 hP1, rd_P15 hP1, rd_P16 hP1, rd_P17 hP1, rd_P18 hP1, rd_P19 hP1, gR_k p1', gO_S hS31, gR_S2 hS31, gR_S4 hS31, gR_S5 hS31, gR_S6 hS31, gR_S7 hS31, gR_S8 hS31, gR_S9 hS31, gR_S10 hS31, gR_S11 hS31, gR_S12 hS31, gR_S14 hS31, gR_S15 hS31, al_S1 hS31, al_S2 hS31, al_S3 hS31, al_S4 hS31, al_S5 hS31, al_S6 hS31, al_S7 hS31, al_S8 hS31, al_S9 hS31, al_S10 hS31, al_S11 hS31, al_S12 hS31, rd_S1 hS31, rd_S2 hS31, rd_S3 hS31, rd_S4 hS31, rd_S5 hS31, rd_S6 hS31, rd_S7 hS31, rd_S8 hS31, rd_S9 hS31, rd_S10 hS31, rd_S11 hS31, rd_S12 hS31, i33, Jl0, Jl1, Jl2, Jl3, Jl4, Jl5, Jl6, Jl7, Jl8, Jl9, Jl10, Jl11, Jl12, Jl13, Jl14, Jl15, Jl16, Jl17, Jl18, Jl19, Jl20, Jl22, Jl24, Jl28, Jl30, Jl31, Jl32, Jl35, Jl36, Jl37, Jl38, Jl39, Jl40, Jl48, Jl57, Jl59, Jl60, Jl61, Jl63, Jl64, Jl68, Jl69, Jl96, Jl97, Jl98, Jl99, Jl100, Jl122, Jl149, Jl150, Jl165, Jl255, Jl511, Jl512, Jl600, Jl610, Jl940, Jl968, Jl999, Jl1134, Jl1152, Jl2048, Jl4608, Jl9999, Jl99999, Jl100000, Jl147456, Jl12345, Jl1103515245, Jl100000000, Jlm1, Jlm2, J_add, J_sub, J_mul, J_lt, J_le, J_eq, J_ite, J_cl, ri_j, wi_j, b2i_z, b2i_o, b2i_zo, Int.cast_ofNat_Int, Int.natCast_zero, Int.natCast_one, if_true, if_false, ite_self, Int.le_refl, J_bit, J_or, J_neg, J_oN, Int.reduceEq, Int.reduceLT, Int.reduceLE, Int.reduceNeg, Int.reduceAdd, Int.reduceSub, Int.reduceMul, Int.reduceToNat, J_shl, J_shr, V_ite, true_or, or_true, nz_j, J_div, J_rem, Option.bind_some, Option.toList_some, Option.toList_none, List.cons_append, List.nil_append, Jl21, Jl23, Jl25, Jl74, Jl83, Jl288, Jl324, Jl1800, Jlm8]
    rw [s2, e2, s3, e3, s4]
  rw [s1]
  have eF : (fun c => F7 S L T (lsQ (S 0 3) c)) = FF7 S L T := funext (fun c => F7_due hV hZ (fun _ _ _ => lsQ_b) (fun _ _ _ => rfl))
  have fr3 : ∀ a, (a < lo + 84 + 14 ∨ lo + 84 + 14 < a) → a ≠ lo + 103 + 5 → a ≠ lo + 103 + 6 → a ≠ lo + 102 + 17 → a ≠ lo + 84 + 16 → a ≠ lo + 84 + 17 → a ≠ lo + 102 + 18 → I3 a = I1 a := fun a q0 q1 q2 q3 q4 q5 q6 => by rw [c2 a (by omega) q4 q5 q6, a2 a q1 q2 (by omega) q3]
  have ff0 : ∀ c, 0 ≤ FF7 S L T c := fun c => by
    have := sm_mo (fun j => dueS S L T (D7 S T (S 0 3) (lsQ (S 0 3) c)) (siS S) j) (a := 0) (n := S 0 3) (by omega) (fun j q1 q2 => (due_0 hV hLV hTV (D7_le hV (fun _ _ _ => lsQ_b)) (siS_SIo hV) ⟨q1, q2⟩).1)
    rw [sm_0] at this
    exact this
  have pp := p9_p (S 0 3)
  have sv0 : 0 ≤ (svQ (FF7 S L T) (p9 (S 0 3))).1 := svQ_n (by omega) (fun c _ _ => ff0 c)
  rw [eF]
  by_cases cz : S 0 3 = 0
  · obtain ⟨I4, eI4⟩ : ∃ I4, I4 = u3 I3 (lo + 102) 2 0 := ⟨_, rfl⟩
    have c4' : ∀ a, a ≠ lo + 102 → I4 a = I3 a := fun a q => by rw [eI4, u3_c q]
    have i43 : I4 (lo + 103) 3 = 0 := by rw [c4' _ (by omega), i33, cz]
    have h38 : cl E lo d 38 [.ref (lo + 102), .int (J 0)] (mj μ1 I4) = some (none, mj μ1 I4) := by
      obtain ⟨d, rfl⟩ : ∃ e, d = e + 1 := ⟨d - 1, by omega⟩
      simp (disch := omega) only [b38_0, b38_18, e38, gO_P hP1, gR_P4 hP1, gR_P6 hP1, gR_P7 hP1, gR_P8 hP1, gR_P9 hP1, gR_P10 hP1, al_P14 hP1, al_P15 hP1, al_P16 hP1, al_P17 hP1, al_P18 hP1, al_P19 hP1, rd_P14 hP1, rd_P15 hP1, rd_P16 hP1, rd_P17 hP1, rd_P18 hP1, rd_P19 hP1, gR_k p1', gO_S hS31, gR_S2 hS31, gR_S4 hS31, gR_S5 hS31, gR_S6 hS31, gR_S7 hS31, gR_S8 hS31, gR_S9 hS31, gR_S10 hS31, gR_S11 hS31, gR_S12 hS31, gR_S14 hS31, gR_S15 hS31, al_S1 hS31, al_S2 hS31, al_S3 hS31, al_S4 hS31, al_S5 hS31, al_S6 hS31, al_S7 hS31, al_S8 hS31, al_S9 hS31, al_S10 hS31, al_S11 hS31, al_S12 hS31, rd_S1 hS31, rd_S2 hS31, rd_S3 hS31, rd_S4 hS31, rd_S5 hS31, rd_S6 hS31, rd_S7 hS31, rd_S8 hS31, rd_S9 hS31, rd_S10 hS31, rd_S11 hS31, rd_S12 hS31, i43, Jl0, Jl1, Jl2, Jl3, Jl4, Jl5, Jl6, Jl7, Jl8, Jl9, Jl10, Jl11, Jl12, Jl13, Jl14, Jl15, Jl16, Jl17, Jl18, Jl19, Jl20, Jl22, Jl24, Jl28, Jl30, Jl31, Jl32, Jl35, Jl36, Jl37, Jl38, Jl39, Jl40, Jl48, Jl57, Jl59, Jl60, Jl61, Jl63, Jl64, Jl68, Jl69, Jl96, Jl97, Jl98, Jl99, Jl100, Jl122, Jl149, Jl150, Jl165, Jl255, Jl511, Jl512, Jl600, Jl610, Jl940, Jl968, Jl999, Jl1134, Jl1152, Jl2048, Jl4608, Jl9999, Jl99999, Jl100000, Jl147456, Jl12345, Jl1103515245, Jl100000000, Jlm1, Jlm2, J_add, J_sub, J_mul, J_lt, J_le, J_eq, J_ite, J_cl, ri_j, wi_j, b2i_z, b2i_o, b2i_zo, Int.cast_ofNat_Int, Int.natCast_zero, Int.natCast_one, if_true, if_false, ite_self, Int.le_refl, J_bit, J_or, J_neg, J_oN, Int.reduceEq, Int.reduceLT, Int.reduceLE, Int.reduceNeg, Int.reduceAdd, Int.reduceSub, Int.reduceMul, Int.reduceToNat, J_shl, J_shr, V_ite, true_or, or_true, nz_j, J_div, J_rem, Option.bind_some, Option.toList_some, Option.toList_none, List.cons_append, List.nil_append, Jl21, Jl23, Jl25, Jl74, Jl83, Jl288, Jl324, Jl1800, Jlm8]
    have esv : svQ (FF7 S L T) (p9 (S 0 3)) = (0, 0) := by
      have e1 : svQ (FF7 S L T) (0 + 1) = if (-1 : Int) = -1 ∨ FF7 S L T 0 < -1 then (FF7 S L T 0, 0) else (-1, 0) := fo_s _ _ (by omega)
      have e2 : FF7 S L T 0 = 0 := by
        unfold FF7
        rw [cz]
        rfl
      rw [cz, show p9 0 = 0 + 1 from rfl, e1, if_pos (Or.inl rfl), e2]
    rw [esv]
    refine ⟨μ1, I4, ?_, fqm.t ⟨⟨rfl, rfl, rfl, fun _ _ _ => rfl, id⟩, fun a q => ?_, fun _ => ?_⟩, by rw [eI4, u3_s], fun j z1 z2 => by omega⟩
    · rw [cz] at i33
      simp (disch := omega) only [b33_83, b33_94, b33_100, b33_103, b33_108, gO_P hP1, gR_P4 hP1, gR_P6 hP1, gR_P7 hP1, gR_P8 hP1, gR_P9 hP1, gR_P10 hP1, al_P14 hP1, al_P15 hP1, al_P16 hP1, al_P17 hP1, al_P18 hP1, al_P19 hP1, rd_P14 hP1, rd_P15 hP1, rd_P16 hP1, rd_P17 hP1, rd_P18 hP1, rd_P19 hP1, gP_P hP1 hlP, wr_P14 hP1 hlP, wr_P15 hP1 hlP, wr_P16 hP1 hlP, wr_P17 hP1 hlP, wr_P18 hP1 hlP, wr_P19 hP1 hlP, gR_k p1', gO_S hS31, gR_S2 hS31, gR_S4 hS31, gR_S5 hS31, gR_S6 hS31, gR_S7 hS31, gR_S8 hS31, gR_S9 hS31, gR_S10 hS31, gR_S11 hS31, gR_S12 hS31, gR_S14 hS31, gR_S15 hS31, al_S1 hS31, al_S2 hS31, al_S3 hS31, al_S4 hS31, al_S5 hS31, al_S6 hS31, al_S7 hS31, al_S8 hS31, al_S9 hS31, al_S10 hS31, al_S11 hS31, al_S12 hS31, rd_S1 hS31, rd_S2 hS31, rd_S3 hS31, rd_S4 hS31, rd_S5 hS31, rd_S6 hS31, rd_S7 hS31, rd_S8 hS31, rd_S9 hS31, rd_S10 hS31, rd_S11 hS31, rd_S12 hS31, i33, eI4.symm, h38, Jl0, Jl1, Jl2, Jl3, Jl4, Jl5, Jl6, Jl7, Jl8, Jl9, Jl10, Jl11, Jl12, Jl13, Jl14, Jl15, Jl16, Jl17, Jl18, Jl19, Jl20, Jl22, Jl24, Jl28, Jl30, Jl31, Jl32, Jl35, Jl36, Jl37, Jl38, Jl39, Jl40, Jl48, Jl57, Jl59, Jl60, Jl61, Jl63, Jl64, Jl68, Jl69, Jl96, Jl97, Jl98, Jl99, Jl100, Jl122, Jl149, Jl150, Jl165, Jl255, Jl511, Jl512, Jl600, Jl610, Jl940, Jl968, Jl999, Jl1134, Jl1152, Jl2048, Jl4608, Jl9999, Jl99999, Jl100000, Jl147456, Jl12345, Jl1103515245, Jl100000000, Jlm1, Jlm2, J_add, J_sub, J_mul, J_lt, J_le, J_eq, J_ite, J_cl, ri_j, wi_j, b2i_z, b2i_o, b2i_zo, Int.cast_ofNat_Int, Int.natCast_zero, Int.natCast_one, if_true, if_false, ite_self, Int.le_refl, J_bit, J_or, J_neg, J_oN, Int.reduceEq, Int.reduceLT, Int.reduceLE, Int.reduceNeg, Int.reduceAdd, Int.reduceSub, Int.reduceMul, Int.reduceToNat, J_shl, J_shr, V_ite, true_or, or_true, nz_j, J_div, J_rem, Option.bind_some, Option.toList_some, Option.toList_none, List.cons_append, List.nil_append, Jl21, Jl23, Jl25, Jl74, Jl83, Jl288, Jl324, Jl1800, Jlm8]
    · rw [c4' a (by omega), fr3 a (by omega) (by omega) (by omega) (by omega) (by omega) (by omega) (by omega), gf a (by omega)]
    · rw [c4' _ (by omega), c4' _ (by omega)]
      exact ⟨c1.1.2.2.2.2.2.2.2.2.2.2.2.1, c1.1.2.2.2.2.2.2.2.2.2.2.2.2⟩
  · obtain ⟨I4, eI4⟩ : ∃ I4, I4 = u3 I3 (lo + 102) 2 100000000 := ⟨_, rfl⟩
    have c4' : ∀ a, a ≠ lo + 102 → I4 a = I3 a := fun a q => by rw [eI4, u3_c q]
    have h74 : V7 μ1 I4 lo l t S L T := V7_fr c1 hV hs2 (fun a q _ _ => c4' a (by omega)) (c4' _ (by omega)) (by rw [c4' _ (by omega)]; exact c1.1.2.2.2.2.2.2.2.2.2.2.2.1) (fun j q1 q2 => by rw [c4' _ (by omega), c4' _ (by omega)]; exact c1.2.2.1 j q1 q2)
    have em : (((S 0 3 - 1).toNat : Nat) : Int) = S 0 3 - 1 := by omega
    obtain ⟨I5, e5, y1, y2, y3, y4⟩ := tl_all (E := E) hC1 hV hLV hTV hs2 hn (S 0 3 - 1).toNat d 0 0 I4 (-1, 0) (by omega) (by omega) (by omega) (by omega) ⟨h74, LT_fr hLT3 (c4' _ (by omega)), fun j u _ z1 z2 z3 z4 => by rw [c4' _ (by omega), c3 j u z1 z2 z3 z4, D7_v ⟨z3, z4⟩, if_neg (by omega)], fun j z1 z2 => by rw [c4' _ (by omega)]; exact c4 j z1 z2⟩ (fun j z1 z2 => by omega) (Or.inl ⟨rfl, by rw [eI4, u3_s]⟩)
    have ep : (0 * 9 + 9) * p9 (((S 0 3 - 1).toNat : Nat) : Int) = p9 (S 0 3) := by
      have := p9_s (j := S 0 3 - 1) (by omega)
      rw [show S 0 3 - 1 + 1 = S 0 3 by omega] at this
      rw [em, this]
      omega
    rw [ep, show (0 : Int) * 9 * p9 (((S 0 3 - 1).toNat : Nat) : Int) = 0 by rw [Int.zero_mul, Int.zero_mul], ← svQ_fr] at y4
    refine ⟨μ1, I5, ?_, fqm.t ⟨⟨rfl, rfl, rfl, fun _ _ _ => rfl, id⟩, fun a q => ?_, fun _ => ⟨y1.1.1.2.2.2.2.2.2.2.2.2.2.2.1, y1.1.1.2.2.2.2.2.2.2.2.2.2.2.2⟩⟩, ?_, ?_⟩
    · simp (disch := omega) only [b33_83, b33_98, b33_100, b33_103, b33_108, gO_P hP1, gR_P4 hP1, gR_P6 hP1, gR_P7 hP1, gR_P8 hP1, gR_P9 hP1, gR_P10 hP1, al_P14 hP1, al_P15 hP1, al_P16 hP1, al_P17 hP1, al_P18 hP1, al_P19 hP1, rd_P14 hP1, rd_P15 hP1, rd_P16 hP1, rd_P17 hP1, rd_P18 hP1, rd_P19 hP1, gP_P hP1 hlP, wr_P14 hP1 hlP, wr_P15 hP1 hlP, wr_P16 hP1 hlP, wr_P17 hP1 hlP, wr_P18 hP1 hlP, wr_P19 hP1 hlP, gR_k p1', gO_S hS31, gR_S2 hS31, gR_S4 hS31, gR_S5 hS31, gR_S6 hS31, gR_S7 hS31, gR_S8 hS31, gR_S9 hS31, gR_S10 hS31, gR_S11 hS31, gR_S12 hS31, gR_S14 hS31, gR_S15 hS31, al_S1 hS31, al_S2 hS31, al_S3 hS31, al_S4 hS31, al_S5 hS31, al_S6 hS31, al_S7 hS31, al_S8 hS31, al_S9 hS31, al_S10 hS31, al_S11 hS31, al_S12 hS31, rd_S1 hS31, rd_S2 hS31, rd_S3 hS31, rd_S4 hS31, rd_S5 hS31, rd_S6 hS31, rd_S7 hS31, rd_S8 hS31, rd_S9 hS31, rd_S10 hS31, rd_S11 hS31, rd_S12 hS31, i33, eI4.symm, e5, Jl0, Jl1, Jl2, Jl3, Jl4, Jl5, Jl6, Jl7, Jl8, Jl9, Jl10, Jl11, Jl12, Jl13, Jl14, Jl15, Jl16, Jl17, Jl18, Jl19, Jl20, Jl22, Jl24, Jl28, Jl30, Jl31, Jl32, Jl35, Jl36, Jl37, Jl38, Jl39, Jl40, Jl48, Jl57, Jl59, Jl60, Jl61, Jl63, Jl64, Jl68, Jl69, Jl96, Jl97, Jl98, Jl99, Jl100, Jl122, Jl149, Jl150, Jl165, Jl255, Jl511, Jl512, Jl600, Jl610, Jl940, Jl968, Jl999, Jl1134, Jl1152, Jl2048, Jl4608, Jl9999, Jl99999, Jl100000, Jl147456, Jl12345, Jl1103515245, Jl100000000, Jlm1, Jlm2, J_add, J_sub, J_mul, J_lt, J_le, J_eq, J_ite, J_cl, ri_j, wi_j, b2i_z, b2i_o, b2i_zo, Int.cast_ofNat_Int, Int.natCast_zero, Int.natCast_one, if_true, if_false, ite_self, Int.le_refl, J_bit, J_or, J_neg, J_oN, Int.reduceEq, Int.reduceLT, Int.reduceLE, Int.reduceNeg, Int.reduceAdd, Int.reduceSub, Int.reduceMul, Int.reduceToNat, J_shl, J_shr, V_ite, true_or, or_true, nz_j, J_div, J_rem, Option.bind_some, Option.toList_some, Option.toList_none, List.cons_append, List.nil_append, Jl21, Jl23, Jl25, Jl74, Jl83, Jl288, Jl324, Jl1800, Jlm8]
      repeat (first | rw [if_neg (by omega)] | rw [if_pos (by omega)])
    · rw [y3 a (by omega) (by omega) (by omega) (by omega) (by omega) (by omega), c4' a (by omega), fr3 a (by omega) (by omega) (by omega) (by omega) (by omega) (by omega) (by omega), gf a (by omega)]
    · rcases y4 with q | q
      · omega
      · exact q.2.2.1
    · rcases y4 with q | q
      · omega
      · exact q.2.2.2
end CLASS
