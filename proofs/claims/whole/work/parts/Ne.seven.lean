/-! THE CLASS: lies of all -/
section AG7
variable {S S' L T : Nat → Int → Int} {D si : Int → Int} {k u : Int}
theorem ag_dpS (h : agW S S') (hV : SV S) (hT : TV T) (hk : 0 ≤ k ∧ k < S 0 3) (hu : 0 ≤ u ∧ u < 36) : dpS S' T k u = dpS S T k u := by
  have v := hV.2.2.1 k hk.1 hk.2
  have es : snS S' T k (u + 1) = snS S T k (u + 1) := by
    unfold snS
    rw [h.2.2.1 5 (by omega) (by omega) k hk.1 hk.2]
    exact fo_congr _ _ _ (fun i x q1 q2 => by rw [ag_wk h hV hT hk (by omega)])
  unfold dpS
  rw [ag_as h hk, es, ag_ds h hk]
theorem ag_dueS (h : agW S S') (hV : SV S) (hT : TV T) (hk : 0 ≤ k ∧ k < S 0 3) : dueS S' L T D si k = dueS S L T D si k := by
  have hr : ∀ j u, 0 ≤ j → j < S 0 3 → rdS S' D si j u = rdS S D si j u := fun j u q1 q2 => by
    unfold rdS
    rw [h.2.2.1 2 (by omega) (by omega) j q1 q2]
  have hz : dzS S' L T D si k (T 0 7) = dzS S L T D si k (T 0 7) := sm_congr _ _ (fun j q1 q2 => by
    unfold ctS
    have e : cgS S' L D si k (T 4 j) = cgS S L D si k (T 4 j) := by
      show cgG S' L (fun i => rdS S' D si i (T 4 j)) k (T 4 j) = cgG S L (fun i => rdS S D si i (T 4 j)) k (T 4 j)
      exact ag_cg h hk (fun i z1 z2 => hr i _ z1 z2)
    rw [e, h.2.2.1 3 (by omega) (by omega) k hk.1 hk.2])
  unfold dueS
  rw [hz]
/-- other lies and rises -/
def S8 (S : Nat → Int → Int) (p q : Int → Int) : Nat → Int → Int := fun f => if f = 5 then p else if f = 6 then q else S f
theorem S8_V {p q : Int → Int} (hV : SV S) (hp : ∀ k, 0 ≤ k → k < S 0 3 → (0 ≤ p k ∧ p k ≤ 35) ∧ (1 ≤ q k ∧ q k ≤ 36 ∧ p k < q k)) : SV (S8 S p q) := by
  obtain ⟨v1, v2, v3, v4⟩ := hV
  refine ⟨v1, v2, fun k h1 h2 => ?_, v4⟩
  have a := v3 k h1 h2
  have b := hp k h1 h2
  exact ⟨a.1, a.2.1, a.2.2.1, b.1, b.2, a.2.2.2.2.2.1, a.2.2.2.2.2.2.1, a.2.2.2.2.2.2.2.1, a.2.2.2.2.2.2.2.2⟩
theorem dpS_8 {p q p' q' : Int → Int} (h : p k = p' k) (hq : q k = q' k) : dpS (S8 S p q) T k u = dpS (S8 S p' q') T k u := by
  have e5 : S8 S p q 5 k = S8 S p' q' 5 k := h
  have e6 : S8 S p q 6 k = S8 S p' q' 6 k := hq
  have ew : ∀ x y, wbS (S8 S p q) k x y = wbS (S8 S p' q') k x y := fun _ _ => rfl
  have eu : upS (S8 S p q) k = upS (S8 S p' q') k := by
    unfold upS
    rw [e6, ew]
  have ea : asS (S8 S p q) k u = asS (S8 S p' q') k u := by
    unfold asS
    rw [e5, eu]
  have es : snS (S8 S p q) T k (u + 1) = snS (S8 S p' q') T k (u + 1) := by
    unfold snS
    rw [e5]
    rfl
  unfold dpS
  rw [ea, es]
  rfl
theorem dpS_la {p q : Int → Int} {li : Int} (h : p k = li) (hq : q k = li + 28) : dpS (S8 S p q) T k u = LAQ S T k li u := dpS_8 (p' := fun _ => li) (q' := fun _ => li + 28) h hq
end AG7
section CLASS
variable {E : (Nat → Value) × (Nat → Nat)} {lo d s l t : Nat} {μ : rM} {I S L T R : Nat → Int → Int} {x y z w k u h a b n : Int} {bb : Bool}
/-- the changed street is the night's -/
def V7 (μ : rM) (I : Nat → Int → Int) (lo l t : Nat) (S L T : Nat → Int → Int) : Prop := NC μ I (lo + 84) (lo + 103) l t (rws I (lo + 103)) L T ∧ agW (S8 S (I (lo + 103 + 5)) (I (lo + 103 + 6))) (rws I (lo + 103)) ∧ (∀ k, 0 ≤ k → k < S 0 3 → (0 ≤ I (lo + 103 + 5) k ∧ I (lo + 103 + 5) k ≤ 35) ∧ (1 ≤ I (lo + 103 + 6) k ∧ I (lo + 103 + 6) k ≤ 36 ∧ I (lo + 103 + 5) k < I (lo + 103 + 6) k)) ∧ (∀ k, 0 ≤ k → k < S 0 3 → I (lo + 84 + 15) k = siS S k)
theorem V7_fr {I' : Nat → Int → Int} (h : V7 μ I lo l t S L T) (hV : SV S) (hs : l + 2 ≤ lo + 84 ∧ t + 5 ≤ lo + 84) (hf : ∀ a, (a < lo + 84 ∨ lo + 103 ≤ a ∧ a < lo + 116) → a ≠ lo + 103 + 5 → a ≠ lo + 103 + 6 → I' a = I a) (h15 : I' (lo + 84 + 15) = I (lo + 84 + 15)) (hD : DV (I' (lo + 84 + 14))) (hp : ∀ k, 0 ≤ k → k < S 0 3 → (0 ≤ I' (lo + 103 + 5) k ∧ I' (lo + 103 + 5) k ≤ 35) ∧ (1 ≤ I' (lo + 103 + 6) k ∧ I' (lo + 103 + 6) k ≤ 36 ∧ I' (lo + 103 + 5) k < I' (lo + 103 + 6) k)) : V7 μ I' lo l t S L T := by
  obtain ⟨hN, hA, _, hsi⟩ := h
  have rf : ∀ f : Nat, f < 13 → f ≠ 5 → f ≠ 6 → rws I' (lo + 103) f = rws I (lo + 103) f := fun f q1 q2 q3 => hf (lo + 103 + f) (by omega) (by omega) (by omega)
  have ag : agW (S8 S (I' (lo + 103 + 5)) (I' (lo + 103 + 6))) (rws I' (lo + 103)) := by
    refine ⟨?_, fun i q1 q2 => ?_, fun f f1 f2 j q1 q2 => ?_, fun i q1 q2 => ?_⟩
    · rw [rf 0 (by omega) (by omega) (by omega)]; exact hA.1
    · rw [rf 1 (by omega) (by omega) (by omega)]; exact hA.2.1 i q1 q2
    · by_cases c5 : f = 5
      · subst c5; rfl
      · by_cases c6 : f = 6
        · subst c6; rfl
        · rw [rf f (by omega) c5 c6]
          have := hA.2.2.1 f f1 f2 j q1 q2
          unfold S8 at this ⊢
          rw [if_neg c5, if_neg c6] at this ⊢
          exact this
    · rw [rf 11 (by omega) (by omega) (by omega), rf 12 (by omega) (by omega) (by omega)]; exact hA.2.2.2 i q1 q2
  obtain ⟨gN, h0, g1, g2, hS, _, hL, hLV, hT, hTV, hAd, _, hI⟩ := hN
  exact ⟨⟨gN, h0, g1, g2, rws_S hS.1, agW_V ag (S8_V hV hp), hL.fr (fun a _ _ => hf a (by omega) (by omega) (by omega)), hLV, hT.fr (fun a _ _ => hf a (by omega) (by omega) (by omega)), hTV, hAd, hD, by rw [h15]; exact hI⟩, ag, hp, fun k q1 q2 => by rw [h15]; exact hsi k q1 q2⟩
theorem la_sp {li : Int} (hd : 1 ≤ d) (hC : CO μ lo) (hk : 0 ≤ k ∧ k < 5) (hl : 0 ≤ li ∧ li ≤ 9) : cl E lo d 35 [.ref ((lo + 102)), .int (J (k)), .int (J (li))] (mj μ I) = some (none, mj μ (sA I (lo + 84 + 14) (cpr (I (lo + 102 + 17)) (I (lo + 84 + 14)) ((k * 10 + li) * 36) (k * 36) 36))) := by
  obtain ⟨d, rfl⟩ : ∃ e, d = e + 1 := ⟨d - 1, by omega⟩
  obtain ⟨p0, p1⟩ := hC.p
  have hP := hC.P102
  have hNi := hC.N84
  have hac := fun (r : Option rRs) => acp_k (μ := μ) (lo := lo) (I := I) (r := r) (x := (k * 10 + li) * 36) (y := k * 36) (w := 36) (hP.2 (8, 17, 0, 1800) (by decide)).2 (hNi.2 (3, 14, 0, 324) (by decide)).2 (Or.inl rfl) (by dsimp only; omega) (by dsimp only; omega)
  simp (disch := omega) only [b35_0, b35_29, e35, gO_P hP, gR_P4 hP, gR_P6 hP, gR_P7 hP, gR_P8 hP, gR_P9 hP, gR_P10 hP, al_P14 hP, al_P15 hP, al_P16 hP, al_P17 hP, al_P18 hP, al_P19 hP, rd_P14 hP, rd_P15 hP, rd_P16 hP, rd_P17 hP, rd_P18 hP, rd_P19 hP, gR_k p0, gO_N hNi, gR_N3 hNi, gR_N4 hNi, gR_N5 hNi, gR_N6 hNi, al_N14 hNi, al_N15 hNi, al_N16 hNi, al_N17 hNi, rd_N14 hNi, rd_N15 hNi, rd_N16 hNi, rd_N17 hNi, hac, cp_j, Jl0, Jl1, Jl2, Jl3, Jl4, Jl5, Jl6, Jl7, Jl8, Jl9, Jl10, Jl11, Jl12, Jl13, Jl14, Jl15, Jl16, Jl17, Jl18, Jl19, Jl20, Jl22, Jl24, Jl28, Jl30, Jl31, Jl32, Jl35, Jl36, Jl37, Jl38, Jl39, Jl40, Jl48, Jl57, Jl59, Jl60, Jl61, Jl63, Jl64, Jl68, Jl69, Jl96, Jl97, Jl98, Jl99, Jl100, Jl122, Jl149, Jl150, Jl165, Jl255, Jl511, Jl512, Jl600, Jl610, Jl940, Jl968, Jl999, Jl1134, Jl1152, Jl2048, Jl4608, Jl9999, Jl99999, Jl100000, Jl147456, Jl12345, Jl1103515245, Jl100000000, Jlm1, Jlm2, J_add, J_sub, J_mul, J_lt, J_le, J_eq, J_ite, J_cl, ri_j, wi_j, b2i_z, b2i_o, b2i_zo, Int.cast_ofNat_Int, Int.natCast_zero, Int.natCast_one, if_true, if_false, ite_self, Int.le_refl, J_bit, J_or, J_neg, J_oN, Int.reduceEq, Int.reduceLT, Int.reduceLE, Int.reduceNeg, Int.reduceAdd, Int.reduceSub, Int.reduceMul, Int.reduceToNat, J_shl, J_shr, V_ite, true_or, or_true, nz_j, J_div, J_rem, Option.bind_some, Option.toList_some, Option.toList_none, List.cons_append, List.nil_append, Jl21, Jl23, Jl25, Jl74, Jl83, Jl288, Jl324, Jl1800, Jlm8]
theorem doz_sp (hd : 2 ≤ d) (hC : CO μ lo) (hk : 0 ≤ k ∧ k < 5) : cl E lo d 36 [.ref ((lo + 102)), .int (J (k))] (mj μ I) = some (none, mj μ (sA I (lo + 84 + 14) (cpr (I (lo + 102 + 17)) (I (lo + 84 + 14)) ((k * 10 + 9) * 36) (k * 36) 36))) := by
  obtain ⟨d, rfl⟩ : ∃ e, d = e + 1 := ⟨d - 1, by omega⟩
  have hP := hC.P102
  have hla := la_sp (E := E) (lo := lo) (d := d) (I := I) (li := 9) (by omega) hC hk (by omega)
  simp (disch := omega) only [b36_0, b36_7, e36, gO_P hP, gR_P4 hP, gR_P6 hP, gR_P7 hP, gR_P8 hP, gR_P9 hP, gR_P10 hP, al_P14 hP, al_P15 hP, al_P16 hP, al_P17 hP, al_P18 hP, al_P19 hP, rd_P14 hP, rd_P15 hP, rd_P16 hP, rd_P17 hP, rd_P18 hP, rd_P19 hP, hla, Jl0, Jl1, Jl2, Jl3, Jl4, Jl5, Jl6, Jl7, Jl8, Jl9, Jl10, Jl11, Jl12, Jl13, Jl14, Jl15, Jl16, Jl17, Jl18, Jl19, Jl20, Jl22, Jl24, Jl28, Jl30, Jl31, Jl32, Jl35, Jl36, Jl37, Jl38, Jl39, Jl40, Jl48, Jl57, Jl59, Jl60, Jl61, Jl63, Jl64, Jl68, Jl69, Jl96, Jl97, Jl98, Jl99, Jl100, Jl122, Jl149, Jl150, Jl165, Jl255, Jl511, Jl512, Jl600, Jl610, Jl940, Jl968, Jl999, Jl1134, Jl1152, Jl2048, Jl4608, Jl9999, Jl99999, Jl100000, Jl147456, Jl12345, Jl1103515245, Jl100000000, Jlm1, Jlm2, J_add, J_sub, J_mul, J_lt, J_le, J_eq, J_ite, J_cl, ri_j, wi_j, b2i_z, b2i_o, b2i_zo, Int.cast_ofNat_Int, Int.natCast_zero, Int.natCast_one, if_true, if_false, ite_self, Int.le_refl, J_bit, J_or, J_neg, J_oN, Int.reduceEq, Int.reduceLT, Int.reduceLE, Int.reduceNeg, Int.reduceAdd, Int.reduceSub, Int.reduceMul, Int.reduceToNat, J_shl, J_shr, V_ite, true_or, or_true, nz_j, J_div, J_rem, Option.bind_some, Option.toList_some, Option.toList_none, List.cons_append, List.nil_append, Jl21, Jl23, Jl25, Jl74, Jl83, Jl288, Jl324, Jl1800, Jlm8]
theorem cpr_v {f g : Int → Int} {x j : Int} (hk : 0 ≤ k) (hu : 0 ≤ u ∧ u < 36) : cpr f g x (k * 36) 36 (j * 36 + u) = if j = k then f (x + u) else g (j * 36 + u) := by
  unfold cpr
  by_cases c : j = k
  · rw [if_pos c, if_pos (by omega), c, show k * 36 + u - k * 36 = u by omega]
  · rw [if_neg c, if_neg (by omega)]
/-- depths by lies are written down -/
theorem rl_sp (hd : 6 ≤ d) (hC : CO μ lo) (hV : SV S) (hs : l + 2 ≤ lo + 84 ∧ t + 5 ≤ lo + 84) (h7 : V7 μ I lo l t S L T) (hk : 0 ≤ k ∧ k < S 0 3 ∧ S 0 3 ≤ 5) : ∃ I2, cl E lo d 34 [.ref ((lo + 102)), .int (J (k))] (mj μ I) = some (none, mj μ I2) ∧ V7 μ I2 lo l t S L T ∧ (∀ a, a ≠ lo + 103 + 5 → a ≠ lo + 103 + 6 → a ≠ lo + 84 + 14 → a ≠ lo + 102 + 17 → I2 a = I a) ∧ (∀ li u, 0 ≤ li → li < 9 → 0 ≤ u → u < 36 → I2 (lo + 102 + 17) ((k * 10 + li) * 36 + u) = LAQ S T k li u) ∧ (∀ u, 0 ≤ u → u < 36 → I2 (lo + 102 + 17) ((k * 10 + 9) * 36 + u) = DZQ S T k u) ∧ (∀ i, (i < k * 360 ∨ k * 360 + 360 ≤ i) → I2 (lo + 102 + 17) i = I (lo + 102 + 17) i) ∧ (∀ j u, 0 ≤ u → u < 36 → I2 (lo + 84 + 14) (j * 36 + u) = if j = k then DZQ S T k u else I (lo + 84 + 14) (j * 36 + u)) := by
  obtain ⟨d, rfl⟩ : ∃ e, d = e + 1 := ⟨d - 1, by omega⟩
  obtain ⟨p0, p1⟩ := hC.p
  have hP := hC.P102
  have hlP : lo ≤ lo + 102 := by omega
  have hS3 := hC.S103
  have hlS : lo ≤ lo + 103 := by omega
  have hNi := hC.N84
  have hTV := h7.1.2.2.2.2.2.2.2.2.2.1
  have hDV0 := h7.1.2.2.2.2.2.2.2.2.2.2.2.1
  have hfill := fillr_sp (E := E) (lo := lo) (d := d) (μ := μ) (I := I) (n := 1800) (x := (k * 10 + 9) * 36) (y := (k * 10 + 9) * 36 + 36) (v := 100000000) (by omega) (hP.2 (8, 17, 0, 1800) (by decide)).2 (by omega) (by omega) (by omega)
  obtain ⟨I1, eI1⟩ : ∃ I1, I1 = sA I (lo + 102 + 17) (flr (I (lo + 102 + 17)) ((k * 10 + 9) * 36) ((k * 10 + 9) * 36 + 36) 100000000) := ⟨_, rfl⟩
  rw [← eI1] at hfill
  have c1 : ∀ a, a ≠ lo + 102 + 17 → I1 a = I a := fun a q => by rw [eI1, sA_n q]
  obtain ⟨⟨I2, q4, q5⟩, e2, w1, w2, w3, w4, w5, w6⟩ := loop (fun li (t : (Nat → Int → Int) × Option Value × Option Value) => ex PG E lo d 34 27 [some (.ref ((lo + 102))), some (.int (J (k))), some (.int (J (((k * 10 + 9) * 36)))), some (.int (J (li))), t.2.1, t.2.2] [] (mj μ t.1)) (fun li st => V7 μ st.1 lo l t S L T ∧ (∀ a, a ≠ lo + 103 + 5 → a ≠ lo + 103 + 6 → a ≠ lo + 84 + 14 → a ≠ lo + 102 + 17 → st.1 a = I a) ∧ (∀ l' u, 0 ≤ l' → l' < li → 0 ≤ u → u < 36 → st.1 (lo + 102 + 17) ((k * 10 + l') * 36 + u) = LAQ S T k l' u) ∧ (∀ u, 0 ≤ u → u < 36 → st.1 (lo + 102 + 17) ((k * 10 + 9) * 36 + u) = mnQ (fun li => LAQ S T k li u) li) ∧ (∀ i, (i < k * 360 ∨ k * 360 + 360 ≤ i) → st.1 (lo + 102 + 17) i = I (lo + 102 + 17) i) ∧ (∀ j u, j ≠ k → 0 ≤ u → u < 36 → st.1 (lo + 84 + 14) (j * 36 + u) = I (lo + 84 + 14) (j * 36 + u))) (a := 0) (n := 9) (fun li st f1 f2 hQ => by
    obtain ⟨I3, q4, q5⟩ := st
    dsimp only at hQ ⊢
    obtain ⟨w1, w2, w3, w4, w5, w6⟩ := hQ
    -- he lies down
    obtain ⟨I4, eI4⟩ : ∃ I4, I4 = u3 (u3 I3 (lo + 103 + 5) k li) (lo + 103 + 6) k (li + 28) := ⟨_, rfl⟩
    have c4 : ∀ a, a ≠ lo + 103 + 5 → a ≠ lo + 103 + 6 → I4 a = I3 a := fun a q1 q2 => by rw [eI4, u3_c q2, u3_c q1]
    have r5 : I4 (lo + 103 + 5) = u1 (I3 (lo + 103 + 5)) k li := by rw [eI4, u3_c (by omega), u3_sA, sA_s]
    have r6 : I4 (lo + 103 + 6) = u1 (I3 (lo + 103 + 6)) k (li + 28) := by rw [eI4, u3_sA, sA_s, u3_c (by omega)]
    have h74 : V7 μ I4 lo l t S L T := V7_fr w1 hV hs (fun a _ q1 q2 => c4 a q1 q2) (c4 _ (by omega) (by omega)) (by rw [c4 _ (by omega) (by omega)]; exact w1.1.2.2.2.2.2.2.2.2.2.2.2.1) (fun j q1 q2 => by
      rw [r5, r6]
      by_cases c : j = k
      · rw [c, u1_s, u1_s]; omega
      · rw [u1_n c, u1_n c]; exact w1.2.2.1 j q1 q2)
    have hn4 : rws I4 (lo + 103) 0 3 = S 0 3 := h74.2.1.1.2.2.1
    have hld := ld_sp (E := E) (lo := lo) (d := d) (k := k) (by omega) h74.1 (by omega) (by omega)
    obtain ⟨I5, eI5⟩ : ∃ I5, I5 = sA I4 (lo + 84 + 14) (ldR (rws I4 (lo + 103)) T k (I4 (lo + 84 + 14))) := ⟨_, rfl⟩
    rw [← eI5] at hld
    have c5 : ∀ a, a ≠ lo + 84 + 14 → I5 a = I4 a := fun a q => by rw [eI5, sA_n q]
    have hSB : SV (S8 S (I4 (lo + 103 + 5)) (I4 (lo + 103 + 6))) := S8_V hV h74.2.2.1
    have dv : ∀ u, 0 ≤ u → u < 36 → I5 (lo + 84 + 14) (k * 36 + u) = LAQ S T k li u := fun u q1 q2 => by
      rw [eI5, sA_s]
      unfold ldR
      rw [if_pos (by omega), show k * 36 + u - k * 36 = u by omega, ag_dpS h74.2.1 hSB hTV ⟨hk.1, hk.2.1⟩ ⟨q1, q2⟩]
      exact dpS_la (by rw [r5, u1_s]) (by rw [r6, u1_s])
    have dv2 : ∀ j u, j ≠ k → 0 ≤ u → u < 36 → I5 (lo + 84 + 14) (j * 36 + u) = I (lo + 84 + 14) (j * 36 + u) := fun j u q0 q1 q2 => by
      rw [eI5, sA_s]
      unfold ldR
      rw [if_neg (by omega), c4 _ (by omega) (by omega)]
      exact w6 j u q0 q1 q2
    have hDV5 : DV (I5 (lo + 84 + 14)) := by
      rw [eI5, sA_s]
      exact ldR_DV (agW_V h74.2.1 hSB) (by omega) h74.1.2.2.2.2.2.2.2.2.2.2.2.1
    have h75 : V7 μ I5 lo l t S L T := V7_fr h74 hV hs (fun a q _ _ => c5 a (by omega)) (c5 _ (by omega)) hDV5 (fun j q1 q2 => by rw [c5 _ (by omega), c5 _ (by omega)]; exact h74.2.2.1 j q1 q2)
    have i17 : I5 (lo + 102 + 17) = I3 (lo + 102 + 17) := by rw [c5 _ (by omega), c4 _ (by omega) (by omega)]
    have mb : ∀ u, 0 ≤ u → u < 36 → -1 ≤ mnQ (fun li => LAQ S T k li u) li ∧ mnQ (fun li => LAQ S T k li u) li ≤ 100000000 := fun u q1 q2 => ⟨mnQ_b f1 (by omega) (fun i z1 z2 => (LAQ_b (T := T) (li := i) hV (by omega) ⟨hk.1, hk.2.1⟩ ⟨q1, q2⟩).1), by
      unfold mnQ
      refine fo_ind (fun _ (x : Int) => x ≤ 100000000) _ _ f1 (by omega) (fun i x z1 z2 z3 => ?_)
      have := LAQ_b (T := T) (li := i) (u := u) hV (by omega) ⟨hk.1, hk.2.1⟩ ⟨q1, q2⟩
      split <;> omega⟩
    obtain ⟨g, e6, v1, v2, v3⟩ := loop (fun u (g : Int → Int) => ex PG E lo d 34 78 [some (.ref ((lo + 102))), some (.int (J (k))), some (.int (J (((k * 10 + 9) * 36)))), some (.int (J (li))), some (.int (J (((k * 10 + li) * 36)))), some (.int (J (u)))] [] (mj μ (sA I5 (lo + 102 + 17) g))) (fun u g => (∀ v, 0 ≤ v → v < u → g ((k * 10 + li) * 36 + v) = LAQ S T k li v) ∧ (∀ v, 0 ≤ v → v < 36 → g ((k * 10 + 9) * 36 + v) = if v < u then mnQ (fun li => LAQ S T k li v) (li + 1) else mnQ (fun li => LAQ S T k li v) li) ∧ (∀ i, ¬ ((k * 10 + li) * 36 ≤ i ∧ i < (k * 10 + li) * 36 + 36) → ¬ ((k * 10 + 9) * 36 ≤ i ∧ i < (k * 10 + 9) * 36 + 36) → g i = I3 (lo + 102 + 17) i)) (a := 0) (n := 36) (fun u g g1 g2 hQ => by
      obtain ⟨v1, v2, v3⟩ := hQ
      have du : sA I5 (lo + 102 + 17) g (lo + 84 + 14) (k * 36 + u) = LAQ S T k li u := by rw [sA_n (by omega)]; exact dv u g1 g2
      have lb := LAQ_b (T := T) (li := li) (u := u) hV (by omega) ⟨hk.1, hk.2.1⟩ ⟨g1, g2⟩
      have mm := mb u g1 g2
      have gd := v2 u g1 g2
      rw [if_neg (by omega)] at gd
      have es := mnQ_s (f := fun li => LAQ S T k li u) f1
      have gd' : u1 g ((k * 10 + li) * 36 + u) (LAQ S T k li u) ((k * 10 + 9) * 36 + u) = mnQ (fun li => LAQ S T k li u) li := by rw [u1_n (by omega)]; exact gd
      have gl' : u1 g ((k * 10 + li) * 36 + u) (LAQ S T k li u) ((k * 10 + li) * 36 + u) = LAQ S T k li u := u1_s
      refine ⟨u1 (u1 g ((k * 10 + li) * 36 + u) (LAQ S T k li u)) ((k * 10 + 9) * 36 + u) (mnQ (fun li => LAQ S T k li u) (li + 1)), ?_, fun v q1 q2 => ?_, fun v q1 q2 => ?_, fun i q1 q2 => ?_⟩
      · rw [b34_78, es]
        simp (disch := omega) only [b34_85, b34_110, b34_141, gO_P hP, gR_P4 hP, gR_P6 hP, gR_P7 hP, gR_P8 hP, gR_P9 hP, gR_P10 hP, al_P14 hP, al_P15 hP, al_P16 hP, al_P17 hP, al_P18 hP, al_P19 hP, rd_P14 hP, rd_P15 hP, rd_P16 hP, rd_P17 hP, rd_P18 hP, rd_P19 hP, gP_P hP hlP, wr_P14 hP hlP, wr_P15 hP hlP, wr_P16 hP hlP, wr_P17 hP hlP, wr_P18 hP hlP, wr_P19 hP hlP, gR_k p0, gO_N hNi, gR_N3 hNi, gR_N4 hNi, gR_N5 hNi, gR_N6 hNi, al_N14 hNi, al_N15 hNi, al_N16 hNi, al_N17 hNi, rd_N14 hNi, rd_N15 hNi, rd_N16 hNi, rd_N17 hNi, du, u3_sA, sA_s, sA_sA, gd', gl', Jl0, Jl1, Jl2, Jl3, Jl4, Jl5, Jl6, Jl7, Jl8, Jl9, Jl10, Jl11, Jl12, Jl13, Jl14, Jl15, Jl16, Jl17, Jl18, Jl19, Jl20, Jl22, Jl24, Jl28, Jl30, Jl31, Jl32, Jl35, Jl36, Jl37, Jl38, Jl39, Jl40, Jl48, Jl57, Jl59, Jl60, Jl61, Jl63, Jl64, Jl68, Jl69, Jl96, Jl97, Jl98, Jl99, Jl100, Jl122, Jl149, Jl150, Jl165, Jl255, Jl511, Jl512, Jl600, Jl610, Jl940, Jl968, Jl999, Jl1134, Jl1152, Jl2048, Jl4608, Jl9999, Jl99999, Jl100000, Jl147456, Jl12345, Jl1103515245, Jl100000000, Jlm1, Jlm2, J_add, J_sub, J_mul, J_lt, J_le, J_eq, J_ite, J_cl, ri_j, wi_j, b2i_z, b2i_o, b2i_zo, Int.cast_ofNat_Int, Int.natCast_zero, Int.natCast_one, if_true, if_false, ite_self, Int.le_refl, J_bit, J_or, J_neg, J_oN, Int.reduceEq, Int.reduceLT, Int.reduceLE, Int.reduceNeg, Int.reduceAdd, Int.reduceSub, Int.reduceMul, Int.reduceToNat, J_shl, J_shr, V_ite, true_or, or_true, nz_j, J_div, J_rem, Option.bind_some, Option.toList_some, Option.toList_none, List.cons_append, List.nil_append, Jl21, Jl23, Jl25, Jl74, Jl83, Jl288, Jl324, Jl1800, Jlm8]
        repeat (first | rw [if_neg (by omega)] | rw [if_pos (by omega)])
      · rw [u1_n (by omega)]
        by_cases c : v = u
        · rw [c, u1_s]
        · rw [u1_n (by omega)]; exact v1 v q1 (by omega)
      · by_cases c : v = u
        · rw [c, u1_s, if_pos (by omega)]
        · rw [u1_n (by omega), u1_n (by omega), v2 v q1 q2]
          by_cases c2 : v < u
          · rw [if_pos c2, if_pos (by omega)]
          · rw [if_neg c2, if_neg (by omega)]
      · rw [u1_n (by omega), u1_n (by omega)]; exact v3 i q1 q2) (by omega) (I5 (lo + 102 + 17)) ⟨fun v q1 q2 => by omega, fun v q1 q2 => by rw [if_neg (by omega), i17]; exact w4 v q1 q2, fun i _ _ => by rw [i17]⟩
    rw [sA_id] at e6
    have c6 : ∀ a, a ≠ lo + 102 + 17 → sA I5 (lo + 102 + 17) g a = I5 a := fun a q => sA_n q
    refine ⟨(sA I5 (lo + 102 + 17) g, some (.int (J ((k * 10 + li) * 36))), some (.int (J 36))), ?_, V7_fr h75 hV hs (fun a q _ _ => c6 a (by omega)) (c6 _ (by omega)) (by dsimp only; rw [c6 _ (by omega)]; exact hDV5) (fun j q1 q2 => by dsimp only; rw [c6 _ (by omega), c6 _ (by omega)]; exact h75.2.2.1 j q1 q2), fun a q1 q2 q3 q4 => ?_, fun l' u q1 q2 q3 q4 => ?_, fun u q1 q2 => ?_, fun i q => ?_, fun j u q0 q1 q2 => ?_⟩
    · dsimp only
      rw [b34_27]
      simp (disch := omega) only [b34_33, b34_43, gO_P hP, gR_P4 hP, gR_P6 hP, gR_P7 hP, gR_P8 hP, gR_P9 hP, gR_P10 hP, al_P14 hP, al_P15 hP, al_P16 hP, al_P17 hP, al_P18 hP, al_P19 hP, rd_P14 hP, rd_P15 hP, rd_P16 hP, rd_P17 hP, rd_P18 hP, rd_P19 hP, gR_k p1, gO_S hS3, gR_S2 hS3, gR_S4 hS3, gR_S5 hS3, gR_S6 hS3, gR_S7 hS3, gR_S8 hS3, gR_S9 hS3, gR_S10 hS3, gR_S11 hS3, gR_S12 hS3, gR_S14 hS3, gR_S15 hS3, al_S1 hS3, al_S2 hS3, al_S3 hS3, al_S4 hS3, al_S5 hS3, al_S6 hS3, al_S7 hS3, al_S8 hS3, al_S9 hS3, al_S10 hS3, al_S11 hS3, al_S12 hS3, rd_S1 hS3, rd_S2 hS3, rd_S3 hS3, rd_S4 hS3, rd_S5 hS3, rd_S6 hS3, rd_S7 hS3, rd_S8 hS3, rd_S9 hS3, rd_S10 hS3, rd_S11 hS3, rd_S12 hS3, gP_S hS3 hlS, wr_S1 hS3 hlS, wr_S2 hS3 hlS, wr_S3 hS3 hlS, wr_S4 hS3 hlS, wr_S5 hS3 hlS, wr_S6 hS3 hlS, wr_S7 hS3 hlS, wr_S8 hS3 hlS, wr_S9 hS3 hlS, wr_S10 hS3 hlS, wr_S11 hS3 hlS, wr_S12 hS3 hlS, eI4.symm, Jl0, Jl1, Jl2, Jl3, Jl4, Jl5, Jl6, Jl7, Jl8, Jl9, Jl10, Jl11, Jl12, Jl13, Jl14, Jl15, Jl16, Jl17, Jl18, Jl19, Jl20, Jl22, Jl24, Jl28, Jl30, Jl31, Jl32, Jl35, Jl36, Jl37, Jl38, Jl39, Jl40, Jl48, Jl57, Jl59, Jl60, Jl61, Jl63, Jl64, Jl68, Jl69, Jl96, Jl97, Jl98, Jl99, Jl100, Jl122, Jl149, Jl150, Jl165, Jl255, Jl511, Jl512, Jl600, Jl610, Jl940, Jl968, Jl999, Jl1134, Jl1152, Jl2048, Jl4608, Jl9999, Jl99999, Jl100000, Jl147456, Jl12345, Jl1103515245, Jl100000000, Jlm1, Jlm2, J_add, J_sub, J_mul, J_lt, J_le, J_eq, J_ite, J_cl, ri_j, wi_j, b2i_z, b2i_o, b2i_zo, Int.cast_ofNat_Int, Int.natCast_zero, Int.natCast_one, if_true, if_false, ite_self, Int.le_refl, J_bit, J_or, J_neg, J_oN, Int.reduceEq, Int.reduceLT, Int.reduceLE, Int.reduceNeg, Int.reduceAdd, Int.reduceSub, Int.reduceMul, Int.reduceToNat, J_shl, J_shr, V_ite, true_or, or_true, nz_j, J_div, J_rem, Option.bind_some, Option.toList_some, Option.toList_none, List.cons_append, List.nil_append, Jl21, Jl23, Jl25, Jl74, Jl83, Jl288, Jl324, Jl1800, Jlm8]
      simp (disch := omega) only [b34_56, b34_64, gO_P hP, gR_P4 hP, gR_P6 hP, gR_P7 hP, gR_P8 hP, gR_P9 hP, gR_P10 hP, al_P14 hP, al_P15 hP, al_P16 hP, al_P17 hP, al_P18 hP, al_P19 hP, rd_P14 hP, rd_P15 hP, rd_P16 hP, rd_P17 hP, rd_P18 hP, rd_P19 hP, gR_k p0, gO_N hNi, gR_N3 hNi, gR_N4 hNi, gR_N5 hNi, gR_N6 hNi, al_N14 hNi, al_N15 hNi, al_N16 hNi, al_N17 hNi, rd_N14 hNi, rd_N15 hNi, rd_N16 hNi, rd_N17 hNi, hld, Jl0, Jl1, Jl2, Jl3, Jl4, Jl5, Jl6, Jl7, Jl8, Jl9, Jl10, Jl11, Jl12, Jl13, Jl14, Jl15, Jl16, Jl17, Jl18, Jl19, Jl20, Jl22, Jl24, Jl28, Jl30, Jl31, Jl32, Jl35, Jl36, Jl37, Jl38, Jl39, Jl40, Jl48, Jl57, Jl59, Jl60, Jl61, Jl63, Jl64, Jl68, Jl69, Jl96, Jl97, Jl98, Jl99, Jl100, Jl122, Jl149, Jl150, Jl165, Jl255, Jl511, Jl512, Jl600, Jl610, Jl940, Jl968, Jl999, Jl1134, Jl1152, Jl2048, Jl4608, Jl9999, Jl99999, Jl100000, Jl147456, Jl12345, Jl1103515245, Jl100000000, Jlm1, Jlm2, J_add, J_sub, J_mul, J_lt, J_le, J_eq, J_ite, J_cl, ri_j, wi_j, b2i_z, b2i_o, b2i_zo, Int.cast_ofNat_Int, Int.natCast_zero, Int.natCast_one, if_true, if_false, ite_self, Int.le_refl, J_bit, J_or, J_neg, J_oN, Int.reduceEq, Int.reduceLT, Int.reduceLE, Int.reduceNeg, Int.reduceAdd, Int.reduceSub, Int.reduceMul, Int.reduceToNat, J_shl, J_shr, V_ite, true_or, or_true, nz_j, J_div, J_rem, Option.bind_some, Option.toList_some, Option.toList_none, List.cons_append, List.nil_append, Jl21, Jl23, Jl25, Jl74, Jl83, Jl288, Jl324, Jl1800, Jlm8]
      rw [if_neg (by omega), e6, b34_78]
      simp (disch := omega) only [b34_147, Jl0, Jl1, Jl2, Jl3, Jl4, Jl5, Jl6, Jl7, Jl8, Jl9, Jl10, Jl11, Jl12, Jl13, Jl14, Jl15, Jl16, Jl17, Jl18, Jl19, Jl20, Jl22, Jl24, Jl28, Jl30, Jl31, Jl32, Jl35, Jl36, Jl37, Jl38, Jl39, Jl40, Jl48, Jl57, Jl59, Jl60, Jl61, Jl63, Jl64, Jl68, Jl69, Jl96, Jl97, Jl98, Jl99, Jl100, Jl122, Jl149, Jl150, Jl165, Jl255, Jl511, Jl512, Jl600, Jl610, Jl940, Jl968, Jl999, Jl1134, Jl1152, Jl2048, Jl4608, Jl9999, Jl99999, Jl100000, Jl147456, Jl12345, Jl1103515245, Jl100000000, Jlm1, Jlm2, J_add, J_sub, J_mul, J_lt, J_le, J_eq, J_ite, J_cl, ri_j, wi_j, b2i_z, b2i_o, b2i_zo, Int.cast_ofNat_Int, Int.natCast_zero, Int.natCast_one, if_true, if_false, ite_self, Int.le_refl, J_bit, J_or, J_neg, J_oN, Int.reduceEq, Int.reduceLT, Int.reduceLE, Int.reduceNeg, Int.reduceAdd, Int.reduceSub, Int.reduceMul, Int.reduceToNat, J_shl, J_shr, V_ite, true_or, or_true, nz_j, J_div, J_rem, Option.bind_some, Option.toList_some, Option.toList_none, List.cons_append, List.nil_append, Jl21, Jl23, Jl25, Jl74, Jl83, Jl288, Jl324, Jl1800, Jlm8]
    · dsimp only
      rw [c6 a q4, c5 a q3, c4 a q1 q2]; exact w2 a q1 q2 q3 q4
    · dsimp only
      rw [sA_s]
      by_cases c : l' = li
      · rw [c]; exact v1 u q3 q4
      · rw [v3 _ (by omega) (by omega)]
        exact w3 l' u q1 (by omega) q3 q4
    · dsimp only
      rw [sA_s, v2 u q1 q2, if_pos q2]
    · dsimp only
      rw [sA_s, v3 i (by omega) (by omega)]; exact w5 i q
    · dsimp only
      rw [c6 _ (by omega)]; exact dv2 j u q0 q1 q2) (by omega) (I1, none, none) ⟨V7_fr h7 hV hs (fun a q _ _ => c1 a (by omega)) (c1 _ (by omega)) (by dsimp only; rw [c1 _ (by omega)]; exact hDV0) (fun j q1 q2 => by dsimp only; rw [c1 _ (by omega), c1 _ (by omega)]; exact h7.2.2.1 j q1 q2), fun a _ _ _ q => c1 a q, fun l' u q1 q2 => by omega, fun u q1 q2 => by
      dsimp only
      rw [eI1, sA_s]
      unfold flr
      rw [if_pos (by omega)]
      rfl, fun i q => by
      dsimp only
      rw [eI1, sA_s]
      unfold flr
      rw [if_neg (by omega)], fun j u q0 q1 q2 => by dsimp only; rw [c1 _ (by omega)]⟩
  dsimp only at e2 w1 w2 w3 w4 w5 w6
  have hdz := doz_sp (E := E) (lo := lo) (d := d) (I := I2) (by omega) hC (k := k) (by omega)
  obtain ⟨I3, eI3⟩ : ∃ I3, I3 = sA I2 (lo + 84 + 14) (cpr (I2 (lo + 102 + 17)) (I2 (lo + 84 + 14)) ((k * 10 + 9) * 36) (k * 36) 36) := ⟨_, rfl⟩
  rw [← eI3] at hdz
  have c3 : ∀ a, a ≠ lo + 84 + 14 → I3 a = I2 a := fun a q => by rw [eI3, sA_n q]
  have dv : ∀ j u, 0 ≤ u → u < 36 → I3 (lo + 84 + 14) (j * 36 + u) = if j = k then DZQ S T k u else I (lo + 84 + 14) (j * 36 + u) := fun j u q1 q2 => by
    rw [eI3, sA_s, cpr_v hk.1 ⟨q1, q2⟩]
    by_cases c : j = k
    · rw [if_pos c, if_pos c]; exact w4 u q1 q2
    · rw [if_neg c, if_neg c]; exact w6 j u c q1 q2
  have hDV3 : DV (I3 (lo + 84 + 14)) := fun i q1 q2 => by
    have e : i = i / 36 * 36 + i % 36 := by omega
    rw [e, dv (i / 36) (i % 36) (by omega) (by omega)]
    by_cases c : i / 36 = k
    · rw [if_pos c]
      have := DZQ_b (T := T) (u := i % 36) hV ⟨hk.1, hk.2.1⟩ (by omega)
      omega
    · rw [if_neg c, ← e]
      exact hDV0 i q1 q2
  refine ⟨I3, ?_, V7_fr w1 hV hs (fun a q _ _ => c3 a (by omega)) (c3 _ (by omega)) hDV3 (fun j q1 q2 => by rw [c3 _ (by omega), c3 _ (by omega)]; exact w1.2.2.1 j q1 q2), fun a q1 q2 q3 q4 => by rw [c3 a q3]; exact w2 a q1 q2 q3 q4, fun li u q1 q2 q3 q4 => by rw [c3 _ (by omega)]; exact w3 li u q1 q2 q3 q4, fun u q1 q2 => by rw [c3 _ (by omega)]; exact w4 u q1 q2, fun i q => by rw [c3 _ (by omega)]; exact w5 i q, dv⟩
  simp (disch := omega) only [b34_0, b34_25, e34, gO_P hP, gR_P4 hP, gR_P6 hP, gR_P7 hP, gR_P8 hP, gR_P9 hP, gR_P10 hP, al_P14 hP, al_P15 hP, al_P16 hP, al_P17 hP, al_P18 hP, al_P19 hP, rd_P14 hP, rd_P15 hP, rd_P16 hP, rd_P17 hP, rd_P18 hP, rd_P19 hP, hfill, Jl0, Jl1, Jl2, Jl3, Jl4, Jl5, Jl6, Jl7, Jl8, Jl9, Jl10, Jl11, Jl12, Jl13, Jl14, Jl15, Jl16, Jl17, Jl18, Jl19, Jl20, Jl22, Jl24, Jl28, Jl30, Jl31, Jl32, Jl35, Jl36, Jl37, Jl38, Jl39, Jl40, Jl48, Jl57, Jl59, Jl60, Jl61, Jl63, Jl64, Jl68, Jl69, Jl96, Jl97, Jl98, Jl99, Jl100, Jl122, Jl149, Jl150, Jl165, Jl255, Jl511, Jl512, Jl600, Jl610, Jl940, Jl968, Jl999, Jl1134, Jl1152, Jl2048, Jl4608, Jl9999, Jl99999, Jl100000, Jl147456, Jl12345, Jl1103515245, Jl100000000, Jlm1, Jlm2, J_add, J_sub, J_mul, J_lt, J_le, J_eq, J_ite, J_cl, ri_j, wi_j, b2i_z, b2i_o, b2i_zo, Int.cast_ofNat_Int, Int.natCast_zero, Int.natCast_one, if_true, if_false, ite_self, Int.le_refl, J_bit, J_or, J_neg, J_oN, Int.reduceEq, Int.reduceLT, Int.reduceLE, Int.reduceNeg, Int.reduceAdd, Int.reduceSub, Int.reduceMul, Int.reduceToNat, J_shl, J_shr, V_ite, true_or, or_true, nz_j, J_div, J_rem, Option.bind_some, Option.toList_some, Option.toList_none, List.cons_append, List.nil_append, Jl21, Jl23, Jl25, Jl74, Jl83, Jl288, Jl324, Jl1800, Jlm8]
  rw [e2, b34_27]
  simp (disch := omega) only [b34_153, b34_158, gO_P hP, gR_P4 hP, gR_P6 hP, gR_P7 hP, gR_P8 hP, gR_P9 hP, gR_P10 hP, al_P14 hP, al_P15 hP, al_P16 hP, al_P17 hP, al_P18 hP, al_P19 hP, rd_P14 hP, rd_P15 hP, rd_P16 hP, rd_P17 hP, rd_P18 hP, rd_P19 hP, hdz, Jl0, Jl1, Jl2, Jl3, Jl4, Jl5, Jl6, Jl7, Jl8, Jl9, Jl10, Jl11, Jl12, Jl13, Jl14, Jl15, Jl16, Jl17, Jl18, Jl19, Jl20, Jl22, Jl24, Jl28, Jl30, Jl31, Jl32, Jl35, Jl36, Jl37, Jl38, Jl39, Jl40, Jl48, Jl57, Jl59, Jl60, Jl61, Jl63, Jl64, Jl68, Jl69, Jl96, Jl97, Jl98, Jl99, Jl100, Jl122, Jl149, Jl150, Jl165, Jl255, Jl511, Jl512, Jl600, Jl610, Jl940, Jl968, Jl999, Jl1134, Jl1152, Jl2048, Jl4608, Jl9999, Jl99999, Jl100000, Jl147456, Jl12345, Jl1103515245, Jl100000000, Jlm1, Jlm2, J_add, J_sub, J_mul, J_lt, J_le, J_eq, J_ite, J_cl, ri_j, wi_j, b2i_z, b2i_o, b2i_zo, Int.cast_ofNat_Int, Int.natCast_zero, Int.natCast_one, if_true, if_false, ite_self, Int.le_refl, J_bit, J_or, J_neg, J_oN, Int.reduceEq, Int.reduceLT, Int.reduceLE, Int.reduceNeg, Int.reduceAdd, Int.reduceSub, Int.reduceMul, Int.reduceToNat, J_shl, J_shr, V_ite, true_or, or_true, nz_j, J_div, J_rem, Option.bind_some, Option.toList_some, Option.toList_none, List.cons_append, List.nil_append, Jl21, Jl23, Jl25, Jl74, Jl83, Jl288, Jl324, Jl1800, Jlm8]
end CLASS
