/-! THE CLASS: lies of all, dues -/
section PURE
variable {S L T : Nat → Int → Int} {D si si' : Int → Int} {k u : Int}
theorem due_0 (hV : SV S) (hLV : LV L) (hT : TV T) (hd : dLe S D D) (hs : SIo S si) (hk : 0 ≤ k ∧ k < S 0 3) : 0 ≤ dueS S L T D si k ∧ dueS S L T D si k ≤ 999 := by
  have l := hLV.1
  have h0 : 0 ≤ dzS S L T D si k (T 0 7) := by
    have := sm_mo (fun j => ctS S L T D si k (T 4 j)) (a := 0) (n := T 0 7) (by have := hT.1; omega) (fun j q1 q2 => by
      have t4 := hT.2.2 j q1 q2
      have t3 := hT.2.1 (T 4 j) t4.1.1 t4.1.2
      have c := cg_mo hV hLV hd hs hk t4.1
      unfold ctS
      split
      · exact Int.mul_nonneg (by omega) c.1
      · omega)
    rw [sm_0] at this
    exact this
  unfold dueS
  split <;> omega
theorem due_si (hk : 0 ≤ k ∧ k < S 0 3) (h : ∀ j, 0 ≤ j → j < S 0 3 → si j = si' j) : dueS S L T D si k = dueS S L T D si' k := by
  have hz : dzS S L T D si k (T 0 7) = dzS S L T D si' k (T 0 7) := sm_congr _ _ (fun j q1 q2 => by
    unfold ctS
    have e : cgS S L D si k (T 4 j) = cgS S L D si' k (T 4 j) := by
      show cgG S L (fun i => rdS S D si i (T 4 j)) k (T 4 j) = cgG S L (fun i => rdS S D si' i (T 4 j)) k (T 4 j)
      exact cgG_congr hk (fun i z1 z2 => by unfold rdS; rw [h i z1 z2])
    rw [e])
  unfold dueS
  rw [hz]
theorem alQ7_b (hV : SV S) (hLV : LV L) (hT : TV T) (hk : 0 ≤ k ∧ k < S 0 3) : 0 ≤ alQ7 S L T (siS S) k ∧ alQ7 S L T (siS S) k ≤ 999 := by
  have h1 : ∀ li, 0 ≤ li → li < 9 → dLe S (D1 S T k li) (D1 S T k li) := fun li z1 z2 i u q1 q2 q3 q4 => by
    rw [D1_v ⟨q3, q4⟩]
    split
    · rename_i c
      have := LAQ_b (T := T) (li := li) (k := k) (u := u) hV (by omega) hk ⟨q3, q4⟩
      omega
    · have := DZQ_b (T := T) (u := u) hV ⟨q1, q2⟩ ⟨q3, q4⟩
      omega
  have a := mnQ_b (f := fun li => dueS S L T (D1 S T k li) (siS S) k) (n := 9) (A := 0) (by omega) (by omega) (fun i q1 q2 => (due_0 hV hLV hT (h1 i q1 q2) (siS_SIo hV) hk).1)
  have b := mnQ_l (f := fun li => dueS S L T (D1 S T k li) (siS S) k) (n := 9) (i := 0) (by omega)
  have c := due_0 hV hLV hT (h1 0 (by omega) (by omega)) (siS_SIo hV) hk
  unfold alQ7
  exact ⟨a, by omega⟩
theorem D7_le (hV : SV S) {m : Int} {g : Int → Int} (hg : ∀ j, 0 ≤ j → j < m → 0 ≤ g j ∧ g j ≤ 8) : dLe S (D7 S T m g) (D7 S T m g) := fun j u q1 q2 q3 q4 => by
  rw [D7_v ⟨q3, q4⟩]
  split
  · rename_i c
    have := LAQ_b (T := T) (li := g j) (u := u) hV (hg j q1 c) ⟨q1, q2⟩ ⟨q3, q4⟩
    omega
  · have := DZQ_b (T := T) (u := u) hV ⟨q1, q2⟩ ⟨q3, q4⟩
    omega
end PURE
section CLASS
variable {E : (Nat → Value) × (Nat → Nat)} {lo d s l t : Nat} {μ : rM} {I S L T R : Nat → Int → Int} {x y z w k u h a b n : Int} {X : Int → Int}
/-- dues by any depths -/
theorem rk7_sp (hd : 4 ≤ d) (hV : SV S) (hs : l + 2 ≤ lo + 84 ∧ t + 5 ≤ lo + 84) (h7 : V7 μ I lo l t S L T) (hX : ∀ j u, 0 ≤ j → j < S 0 3 → 0 ≤ u → u < 36 → I (lo + 84 + 14) (j * 36 + u) = X (j * 36 + u)) (hL : dLe S X X) : ∃ I2, cl E lo d 22 [.ref ((lo + 84))] (mj μ I) = some (none, mj μ I2) ∧ V7 μ I2 lo l t S L T ∧ (∀ a, a ≠ lo + 84 + 16 → a ≠ lo + 84 + 17 → I2 a = I a) ∧ ∀ j, 0 ≤ j → j < S 0 3 → I2 (lo + 84 + 16) j = dueS S L T X (siS S) j := by
  have hN := h7.1
  have hLV := hN.2.2.2.2.2.2.2.1
  have hTV := hN.2.2.2.2.2.2.2.2.2.1
  have hD := hN.2.2.2.2.2.2.2.2.2.2.2.1
  obtain ⟨g, hrk⟩ := rk_sp (E := E) (lo := lo) (d := d) hd hN (by omega)
  have c2 : ∀ a, a ≠ lo + 84 + 16 → a ≠ lo + 84 + 17 → sA (sA I (lo + 84 + 17) g) (lo + 84 + 16) (duX (rws I (lo + 103)) L T (I (lo + 84 + 14)) (I (lo + 84 + 15)) (I (lo + 84 + 16)) (rws I (lo + 103) 0 3)) a = I a := fun a q1 q2 => by rw [sA_n q1, sA_n q2]
  refine ⟨_, hrk, V7_fr h7 hV hs (fun a q _ _ => c2 a (by omega) (by omega)) (c2 _ (by omega) (by omega)) (by rw [c2 _ (by omega) (by omega)]; exact hD) (fun j q1 q2 => by rw [c2 _ (by omega) (by omega), c2 _ (by omega) (by omega)]; exact h7.2.2.1 j q1 q2), c2, fun j q1 q2 => ?_⟩
  have n3 : rws I (lo + 103) 0 3 = S 0 3 := h7.2.1.1.2.2.1
  rw [sA_s]
  unfold duX
  rw [if_pos ⟨q1, by omega⟩, ag_dueS h7.2.1 (S8_V hV h7.2.2.1) hTV ⟨q1, q2⟩]
  show dueS S L T (I (lo + 84 + 14)) (I (lo + 84 + 15)) j = _
  rw [due_si ⟨q1, q2⟩ (fun i z1 z2 => h7.2.2.2 i z1 z2)]
  exact due_cg hV hLV hTV (fun i u z1 z2 z3 z4 => by rw [hX i u z1 z2 z3 z4]; exact hL i u z1 z2 z3 z4) (fun i u z1 z2 z3 z4 => by rw [hX i u z1 z2 z3 z4]; exact hL i u z1 z2 z3 z4) (siS_SIo hV) ⟨q1, q2⟩
/-- the table of lies is written -/
def LT (I : Nat → Int → Int) (lo : Nat) (S T : Nat → Int → Int) : Prop := ∀ k u, 0 ≤ k → k < S 0 3 → 0 ≤ u → u < 36 → (∀ li, 0 ≤ li → li < 9 → I (lo + 102 + 17) ((k * 10 + li) * 36 + u) = LAQ S T k li u) ∧ I (lo + 102 + 17) ((k * 10 + 9) * 36 + u) = DZQ S T k u
theorem ra_sp (hd : 5 ≤ d) (hC : CO μ lo) (hV : SV S) (hs : l + 2 ≤ lo + 84 ∧ t + 5 ≤ lo + 84) (h7 : V7 μ I lo l t S L T) (hT : LT I lo S T) (hz : ∀ j u, 0 ≤ j → j < S 0 3 → 0 ≤ u → u < 36 → I (lo + 84 + 14) (j * 36 + u) = DZQ S T j u) (hk : 0 ≤ k ∧ k < S 0 3 ∧ S 0 3 ≤ 5) : ∃ I2, cl E lo d 37 [.ref ((lo + 102)), .int (J (k))] (mj μ I) = some (none, mj μ I2) ∧ V7 μ I2 lo l t S L T ∧ (∀ j u, 0 ≤ j → j < S 0 3 → 0 ≤ u → u < 36 → I2 (lo + 84 + 14) (j * 36 + u) = DZQ S T j u) ∧ (∀ a, a ≠ lo + 84 + 14 → a ≠ lo + 84 + 16 → a ≠ lo + 84 + 17 → a ≠ lo + 102 + 18 → I2 a = I a) ∧ I2 (lo + 102 + 18) k = alQ7 S L T (siS S) k ∧ ∀ j, j ≠ k → I2 (lo + 102 + 18) j = I (lo + 102 + 18) j := by
  obtain ⟨d, rfl⟩ : ∃ e, d = e + 1 := ⟨d - 1, by omega⟩
  obtain ⟨p0, p1⟩ := hC.p
  have hP := hC.P102
  have hlP : lo ≤ lo + 102 := by omega
  have hNi := hC.N84
  have hLV := h7.1.2.2.2.2.2.2.2.1
  have hTV := h7.1.2.2.2.2.2.2.2.2.2.1
  have hDV := h7.1.2.2.2.2.2.2.2.2.2.2.2.1
  obtain ⟨f, ef⟩ : ∃ f, f = (fun li => dueS S L T (D1 S T k li) (siS S) k) := ⟨_, rfl⟩
  have dle : ∀ li, 0 ≤ li → li < 9 → dLe S (D1 S T k li) (D1 S T k li) := fun li z1 z2 i u q1 q2 q3 q4 => by
    rw [D1_v ⟨q3, q4⟩]
    split
    · have := LAQ_b (T := T) (li := li) (k := k) (u := u) hV (by omega) (by omega) ⟨q3, q4⟩
      omega
    · have := DZQ_b (T := T) (u := u) hV ⟨q1, q2⟩ ⟨q3, q4⟩
      omega
  have fb : ∀ li, 0 ≤ li → li < 9 → 0 ≤ f li ∧ f li ≤ 999 := fun li z1 z2 => by rw [ef]; exact due_0 hV hLV hTV (dle li z1 z2) (siS_SIo hV) (by omega)
  obtain ⟨I1, e1, a1, a2, a3, a4, a5⟩ := loop (fun li (I' : Nat → Int → Int) => ex PG E lo d 37 10 [some (.ref ((lo + 102))), some (.int (J (k))), some (.int (J (li)))] [] (mj μ I')) (fun li I' => V7 μ I' lo l t S L T ∧ (∀ j u, j ≠ k → 0 ≤ j → j < S 0 3 → 0 ≤ u → u < 36 → I' (lo + 84 + 14) (j * 36 + u) = DZQ S T j u) ∧ (∀ a, a ≠ lo + 84 + 14 → a ≠ lo + 84 + 16 → a ≠ lo + 84 + 17 → a ≠ lo + 102 + 18 → I' a = I a) ∧ I' (lo + 102 + 18) k = mnQ f li ∧ ∀ j, j ≠ k → I' (lo + 102 + 18) j = I (lo + 102 + 18) j) (a := 0) (n := 9) (fun li I' f1 f2 hQ => by
    obtain ⟨a1, a2, a3, a4, a5⟩ := hQ
    have hla := la_sp (E := E) (lo := lo) (d := d) (I := I') (li := li) (k := k) (by omega) hC (by omega) (by omega)
    obtain ⟨I2, eI2⟩ : ∃ I2, I2 = sA I' (lo + 84 + 14) (cpr (I' (lo + 102 + 17)) (I' (lo + 84 + 14)) ((k * 10 + li) * 36) (k * 36) 36) := ⟨_, rfl⟩
    rw [← eI2] at hla
    have c2 : ∀ a, a ≠ lo + 84 + 14 → I2 a = I' a := fun a q => by rw [eI2, sA_n q]
    have dv : ∀ j u, 0 ≤ j → j < S 0 3 → 0 ≤ u → u < 36 → I2 (lo + 84 + 14) (j * 36 + u) = D1 S T k li (j * 36 + u) := fun j u q1 q2 q3 q4 => by
      rw [eI2, sA_s, cpr_v hk.1 ⟨q3, q4⟩, D1_v ⟨q3, q4⟩]
      by_cases c : j = k
      · rw [if_pos c, if_pos c, a3 _ (by omega) (by omega) (by omega) (by omega)]
        exact (hT k u hk.1 hk.2.1 q3 q4).1 li f1 f2
      · rw [if_neg c, if_neg c]; exact a2 j u c q1 q2 q3 q4
    have hDV2 : DV (I2 (lo + 84 + 14)) := fun i q1 q2 => by
      have e : i = i / 36 * 36 + i % 36 := by omega
      rw [eI2, sA_s, e, cpr_v hk.1 (by omega)]
      by_cases c : i / 36 = k
      · rw [if_pos c, a3 _ (by omega) (by omega) (by omega) (by omega), (hT k (i % 36) hk.1 hk.2.1 (by omega) (by omega)).1 li f1 f2]
        exact LAQ_b hV (by omega) (by omega) (by omega)
      · rw [if_neg c, ← e]
        exact a1.1.2.2.2.2.2.2.2.2.2.2.2.1 i q1 q2
    have h72 : V7 μ I2 lo l t S L T := V7_fr a1 hV hs (fun a q _ _ => c2 a (by omega)) (c2 _ (by omega)) hDV2 (fun j q1 q2 => by rw [c2 _ (by omega), c2 _ (by omega)]; exact a1.2.2.1 j q1 q2)
    obtain ⟨I3, e3, h73, c3, d3⟩ := rk7_sp (E := E) (lo := lo) (d := d) (X := D1 S T k li) (by omega) hV hs h72 dv (dle li f1 f2)
    have dk : I3 (lo + 84 + 16) k = f li := by rw [d3 k hk.1 hk.2.1, ef]
    have ak : I3 (lo + 102 + 18) k = mnQ f li := by rw [c3 _ (by omega) (by omega), c2 _ (by omega)]; exact a4
    have fl := fb li f1 f2
    have mb := mnQ_b (f := f) (n := li) (A := 0) f1 (by omega) (fun i z1 z2 => (fb i z1 (by omega)).1)
    have mb2 : mnQ f li ≤ 100000000 := by
      unfold mnQ
      refine fo_ind (fun _ (x : Int) => x ≤ 100000000) _ _ f1 (by omega) (fun i x z1 z2 z3 => ?_)
      have := fb i z1 (by omega)
      split <;> omega
    have es := mnQ_s (f := f) f1
    have c4 : ∀ a, a ≠ lo + 102 + 18 → u3 I3 (lo + 102 + 18) k (mnQ f (li + 1)) a = I3 a := fun a q => u3_c q
    refine ⟨u3 I3 (lo + 102 + 18) k (mnQ f (li + 1)), ?_, V7_fr h73 hV hs (fun a q _ _ => c4 a (by omega)) (c4 _ (by omega)) (by rw [c4 _ (by omega)]; exact h73.1.2.2.2.2.2.2.2.2.2.2.2.1) (fun j q1 q2 => by rw [c4 _ (by omega), c4 _ (by omega)]; exact h73.2.2.1 j q1 q2), fun j u q0 q1 q2 q3 q4 => ?_, fun a q1 q2 q3 q4 => ?_, u3_s, fun j q => ?_⟩
    · rw [b37_10, es]
      simp (disch := omega) only [b37_16, b37_22, b37_29, b37_53, gO_P hP, gR_P4 hP, gR_P6 hP, gR_P7 hP, gR_P8 hP, gR_P9 hP, gR_P10 hP, al_P14 hP, al_P15 hP, al_P16 hP, al_P17 hP, al_P18 hP, al_P19 hP, rd_P14 hP, rd_P15 hP, rd_P16 hP, rd_P17 hP, rd_P18 hP, rd_P19 hP, gP_P hP hlP, wr_P14 hP hlP, wr_P15 hP hlP, wr_P16 hP hlP, wr_P17 hP hlP, wr_P18 hP hlP, wr_P19 hP hlP, gR_k p0, gO_N hNi, gR_N3 hNi, gR_N4 hNi, gR_N5 hNi, gR_N6 hNi, al_N14 hNi, al_N15 hNi, al_N16 hNi, al_N17 hNi, rd_N14 hNi, rd_N15 hNi, rd_N16 hNi, rd_N17 hNi, hla, e3, dk, ak, Jl0, Jl1, Jl2, Jl3, Jl4, Jl5, Jl6, Jl7, Jl8, Jl9, Jl10, Jl11, Jl12, Jl13, Jl14, Jl15, Jl16, Jl17, Jl18, Jl19, Jl20, Jl22, Jl24, Jl28, Jl30, Jl31, Jl32, Jl35, Jl36, Jl37, Jl38, Jl39, Jl40, Jl48, Jl57, Jl59, Jl60, Jl61, Jl63, Jl64, Jl68, Jl69, Jl96, Jl97, Jl98, Jl99, Jl100, Jl122, Jl149, Jl150, Jl165, Jl255, Jl511, Jl512, Jl600, Jl610, Jl940, Jl968, Jl999, Jl1134, Jl1152, Jl2048, Jl4608, Jl9999, Jl99999, Jl100000, Jl147456, Jl12345, Jl1103515245, Jl100000000, Jlm1, Jlm2, J_add, J_sub, J_mul, J_lt, J_le, J_eq, J_ite, J_cl, ri_j, wi_j, b2i_z, b2i_o, b2i_zo, Int.cast_ofNat_Int, Int.natCast_zero, Int.natCast_one, if_true, if_false, ite_self, Int.le_refl, J_bit, J_or, J_neg, J_oN, Int.reduceEq, Int.reduceLT, Int.reduceLE, Int.reduceNeg, Int.reduceAdd, Int.reduceSub, Int.reduceMul, Int.reduceToNat, J_shl, J_shr, V_ite, true_or, or_true, nz_j, J_div, J_rem, Option.bind_some, Option.toList_some, Option.toList_none, List.cons_append, List.nil_append, Jl21, Jl23, Jl25, Jl74, Jl83, Jl288, Jl324, Jl1800, Jlm8]
      repeat (first | rw [if_neg (by omega)] | rw [if_pos (by omega)])
    · rw [c4 _ (by omega), c3 _ (by omega) (by omega), dv j u q1 q2 q3 q4, D1_v ⟨q3, q4⟩, if_neg q0]
    · rw [c4 a q4, c3 a q2 q3, c2 a q1]; exact a3 a q1 q2 q3 q4
    · rw [u3_n (by omega), c3 _ (by omega) (by omega), c2 _ (by omega)]; exact a5 j q) (by omega) (u3 I (lo + 102 + 18) k 100000000) ⟨V7_fr h7 hV hs (fun a q _ _ => u3_c (by omega)) (u3_c (by omega)) (by rw [u3_c (by omega)]; exact hDV) (fun j q1 q2 => by rw [u3_c (by omega), u3_c (by omega)]; exact h7.2.2.1 j q1 q2), fun j u _ q1 q2 q3 q4 => by rw [u3_c (by omega)]; exact hz j u q1 q2 q3 q4, fun a _ _ _ q => u3_c q, by rw [u3_s]; rfl, fun j q => u3_n (by omega)⟩
  have hdz := doz_sp (E := E) (lo := lo) (d := d) (I := I1) (by omega) hC (k := k) (by omega)
  obtain ⟨I3, eI3⟩ : ∃ I3, I3 = sA I1 (lo + 84 + 14) (cpr (I1 (lo + 102 + 17)) (I1 (lo + 84 + 14)) ((k * 10 + 9) * 36) (k * 36) 36) := ⟨_, rfl⟩
  rw [← eI3] at hdz
  have c3 : ∀ a, a ≠ lo + 84 + 14 → I3 a = I1 a := fun a q => by rw [eI3, sA_n q]
  have kd : ∀ u, 0 ≤ u → u < 36 → I1 (lo + 102 + 17) ((k * 10 + 9) * 36 + u) = DZQ S T k u := fun u q1 q2 => by rw [a3 _ (by omega) (by omega) (by omega) (by omega)]; exact (hT k u hk.1 hk.2.1 q1 q2).2
  have dv : ∀ j u, 0 ≤ j → j < S 0 3 → 0 ≤ u → u < 36 → I3 (lo + 84 + 14) (j * 36 + u) = DZQ S T j u := fun j u q1 q2 q3 q4 => by
    rw [eI3, sA_s, cpr_v hk.1 ⟨q3, q4⟩]
    by_cases c : j = k
    · rw [if_pos c, c]; exact kd u q3 q4
    · rw [if_neg c]; exact a2 j u c q1 q2 q3 q4
  have hDV3 : DV (I3 (lo + 84 + 14)) := fun i q1 q2 => by
    have e : i = i / 36 * 36 + i % 36 := by omega
    rw [eI3, sA_s, e, cpr_v hk.1 (by omega)]
    by_cases c : i / 36 = k
    · rw [if_pos c, kd _ (by omega) (by omega)]
      have := DZQ_b (T := T) (k := k) (u := i % 36) hV (by omega) (by omega)
      omega
    · rw [if_neg c, ← e]
      exact a1.1.2.2.2.2.2.2.2.2.2.2.2.1 i q1 q2
  refine ⟨I3, ?_, V7_fr a1 hV hs (fun a q _ _ => c3 a (by omega)) (c3 _ (by omega)) hDV3 (fun j q1 q2 => by rw [c3 _ (by omega), c3 _ (by omega)]; exact a1.2.2.1 j q1 q2), dv, fun a q1 q2 q3 q4 => by rw [c3 a q1]; exact a3 a q1 q2 q3 q4, by rw [c3 _ (by omega), a4, ef]; rfl, fun j q => by rw [c3 _ (by omega)]; exact a5 j q⟩
  simp (disch := omega) only [b37_0, b37_8, e37, gO_P hP, gR_P4 hP, gR_P6 hP, gR_P7 hP, gR_P8 hP, gR_P9 hP, gR_P10 hP, al_P14 hP, al_P15 hP, al_P16 hP, al_P17 hP, al_P18 hP, al_P19 hP, rd_P14 hP, rd_P15 hP, rd_P16 hP, rd_P17 hP, rd_P18 hP, rd_P19 hP, gP_P hP hlP, wr_P14 hP hlP, wr_P15 hP hlP, wr_P16 hP hlP, wr_P17 hP hlP, wr_P18 hP hlP, wr_P19 hP hlP, Jl0, Jl1, Jl2, Jl3, Jl4, Jl5, Jl6, Jl7, Jl8, Jl9, Jl10, Jl11, Jl12, Jl13, Jl14, Jl15, Jl16, Jl17, Jl18, Jl19, Jl20, Jl22, Jl24, Jl28, Jl30, Jl31, Jl32, Jl35, Jl36, Jl37, Jl38, Jl39, Jl40, Jl48, Jl57, Jl59, Jl60, Jl61, Jl63, Jl64, Jl68, Jl69, Jl96, Jl97, Jl98, Jl99, Jl100, Jl122, Jl149, Jl150, Jl165, Jl255, Jl511, Jl512, Jl600, Jl610, Jl940, Jl968, Jl999, Jl1134, Jl1152, Jl2048, Jl4608, Jl9999, Jl99999, Jl100000, Jl147456, Jl12345, Jl1103515245, Jl100000000, Jlm1, Jlm2, J_add, J_sub, J_mul, J_lt, J_le, J_eq, J_ite, J_cl, ri_j, wi_j, b2i_z, b2i_o, b2i_zo, Int.cast_ofNat_Int, Int.natCast_zero, Int.natCast_one, if_true, if_false, ite_self, Int.le_refl, J_bit, J_or, J_neg, J_oN, Int.reduceEq, Int.reduceLT, Int.reduceLE, Int.reduceNeg, Int.reduceAdd, Int.reduceSub, Int.reduceMul, Int.reduceToNat, J_shl, J_shr, V_ite, true_or, or_true, nz_j, J_div, J_rem, Option.bind_some, Option.toList_some, Option.toList_none, List.cons_append, List.nil_append, Jl21, Jl23, Jl25, Jl74, Jl83, Jl288, Jl324, Jl1800, Jlm8]
  rw [e1, b37_10]
  simp (disch := omega) only [b37_59, b37_64, gO_P hP, gR_P4 hP, gR_P6 hP, gR_P7 hP, gR_P8 hP, gR_P9 hP, gR_P10 hP, al_P14 hP, al_P15 hP, al_P16 hP, al_P17 hP, al_P18 hP, al_P19 hP, rd_P14 hP, rd_P15 hP, rd_P16 hP, rd_P17 hP, rd_P18 hP, rd_P19 hP, hdz, Jl0, Jl1, Jl2, Jl3, Jl4, Jl5, Jl6, Jl7, Jl8, Jl9, Jl10, Jl11, Jl12, Jl13, Jl14, Jl15, Jl16, Jl17, Jl18, Jl19, Jl20, Jl22, Jl24, Jl28, Jl30, Jl31, Jl32, Jl35, Jl36, Jl37, Jl38, Jl39, Jl40, Jl48, Jl57, Jl59, Jl60, Jl61, Jl63, Jl64, Jl68, Jl69, Jl96, Jl97, Jl98, Jl99, Jl100, Jl122, Jl149, Jl150, Jl165, Jl255, Jl511, Jl512, Jl600, Jl610, Jl940, Jl968, Jl999, Jl1134, Jl1152, Jl2048, Jl4608, Jl9999, Jl99999, Jl100000, Jl147456, Jl12345, Jl1103515245, Jl100000000, Jlm1, Jlm2, J_add, J_sub, J_mul, J_lt, J_le, J_eq, J_ite, J_cl, ri_j, wi_j, b2i_z, b2i_o, b2i_zo, Int.cast_ofNat_Int, Int.natCast_zero, Int.natCast_one, if_true, if_false, ite_self, Int.le_refl, J_bit, J_or, J_neg, J_oN, Int.reduceEq, Int.reduceLT, Int.reduceLE, Int.reduceNeg, Int.reduceAdd, Int.reduceSub, Int.reduceMul, Int.reduceToNat, J_shl, J_shr, V_ite, true_or, or_true, nz_j, J_div, J_rem, Option.bind_some, Option.toList_some, Option.toList_none, List.cons_append, List.nil_append, Jl21, Jl23, Jl25, Jl74, Jl83, Jl288, Jl324, Jl1800, Jlm8]
theorem ld7_sp {al : Int → Int} (hd : 1 ≤ d) (hC : CO μ lo) (hn : 0 ≤ n ∧ n ≤ 5) (h3 : I (lo + 103) 3 = n) (hk : 0 ≤ k ∧ k < 5) (hX : ∀ j, 0 ≤ j → j < n → I (lo + 84 + 16) j = X j ∧ 0 ≤ X j ∧ X j ≤ 999) (ha : ∀ j, 0 ≤ j → j < n → I (lo + 102 + 18) j = al j ∧ 0 ≤ al j ∧ al j ≤ 999) : cl E lo d 39 [.ref ((lo + 102)), .int (J (k))] (mj μ I) = some (some (.int (J (sm (fun j => if j ≤ k then X j else if X j < al j then al j else X j) n))), mj μ I) := by
  obtain ⟨d, rfl⟩ : ∃ e, d = e + 1 := ⟨d - 1, by omega⟩
  obtain ⟨p0, p1⟩ := hC.p
  have hP := hC.P102
  have hNi := hC.N84
  have hS3 := hC.S103
  have LL := tele (fun i => ex PG E lo d 39 4 [some (.ref ((lo + 102))), some (.int (J (k))), some (.int (J ((sm (fun j => if j ≤ k then X j else if X j < al j then al j else X j) i)))), some (.int (J (i)))] [] (mj μ I)) (a := 0) (n := n) (fun i f1 f2 => by
    obtain ⟨x1, x2⟩ := hX i f1 f2
    obtain ⟨a1, a2⟩ := ha i f1 f2
    have sb := sm_b (fun j => if j ≤ k then X j else if X j < al j then al j else X j) (n := i) (A := 0) (B := 999) f1 (fun j q1 q2 => by
      have y1 := (hX j q1 (by omega)).2
      have y2 := (ha j q1 (by omega)).2
      split
      · omega
      · split <;> omega)
    rw [b39_4, sm_s _ f1]
    by_cases c : i ≤ k
    · rw [if_pos c]
      simp (disch := omega) only [b39_15, b39_20, b39_26, b39_56, gO_P hP, gR_P4 hP, gR_P6 hP, gR_P7 hP, gR_P8 hP, gR_P9 hP, gR_P10 hP, al_P14 hP, al_P15 hP, al_P16 hP, al_P17 hP, al_P18 hP, al_P19 hP, rd_P14 hP, rd_P15 hP, rd_P16 hP, rd_P17 hP, rd_P18 hP, rd_P19 hP, gR_k p0, gR_k p1, gO_N hNi, gR_N3 hNi, gR_N4 hNi, gR_N5 hNi, gR_N6 hNi, al_N14 hNi, al_N15 hNi, al_N16 hNi, al_N17 hNi, rd_N14 hNi, rd_N15 hNi, rd_N16 hNi, rd_N17 hNi, gO_S hS3, gR_S2 hS3, gR_S4 hS3, gR_S5 hS3, gR_S6 hS3, gR_S7 hS3, gR_S8 hS3, gR_S9 hS3, gR_S10 hS3, gR_S11 hS3, gR_S12 hS3, gR_S14 hS3, gR_S15 hS3, al_S1 hS3, al_S2 hS3, al_S3 hS3, al_S4 hS3, al_S5 hS3, al_S6 hS3, al_S7 hS3, al_S8 hS3, al_S9 hS3, al_S10 hS3, al_S11 hS3, al_S12 hS3, rd_S1 hS3, rd_S2 hS3, rd_S3 hS3, rd_S4 hS3, rd_S5 hS3, rd_S6 hS3, rd_S7 hS3, rd_S8 hS3, rd_S9 hS3, rd_S10 hS3, rd_S11 hS3, rd_S12 hS3, h3, x1, Jl0, Jl1, Jl2, Jl3, Jl4, Jl5, Jl6, Jl7, Jl8, Jl9, Jl10, Jl11, Jl12, Jl13, Jl14, Jl15, Jl16, Jl17, Jl18, Jl19, Jl20, Jl22, Jl24, Jl28, Jl30, Jl31, Jl32, Jl35, Jl36, Jl37, Jl38, Jl39, Jl40, Jl48, Jl57, Jl59, Jl60, Jl61, Jl63, Jl64, Jl68, Jl69, Jl96, Jl97, Jl98, Jl99, Jl100, Jl122, Jl149, Jl150, Jl165, Jl255, Jl511, Jl512, Jl600, Jl610, Jl940, Jl968, Jl999, Jl1134, Jl1152, Jl2048, Jl4608, Jl9999, Jl99999, Jl100000, Jl147456, Jl12345, Jl1103515245, Jl100000000, Jlm1, Jlm2, J_add, J_sub, J_mul, J_lt, J_le, J_eq, J_ite, J_cl, ri_j, wi_j, b2i_z, b2i_o, b2i_zo, Int.cast_ofNat_Int, Int.natCast_zero, Int.natCast_one, if_true, if_false, ite_self, Int.le_refl, J_bit, J_or, J_neg, J_oN, Int.reduceEq, Int.reduceLT, Int.reduceLE, Int.reduceNeg, Int.reduceAdd, Int.reduceSub, Int.reduceMul, Int.reduceToNat, J_shl, J_shr, V_ite, true_or, or_true, nz_j, J_div, J_rem, Option.bind_some, Option.toList_some, Option.toList_none, List.cons_append, List.nil_append, Jl21, Jl23, Jl25, Jl74, Jl83, Jl288, Jl324, Jl1800, Jlm8]
      repeat (first | rw [if_neg (by omega)] | rw [if_pos (by omega)])
    · rw [if_neg c]
      simp (disch := omega) only [b39_15, b39_20, b39_38, b39_56, gO_P hP, gR_P4 hP, gR_P6 hP, gR_P7 hP, gR_P8 hP, gR_P9 hP, gR_P10 hP, al_P14 hP, al_P15 hP, al_P16 hP, al_P17 hP, al_P18 hP, al_P19 hP, rd_P14 hP, rd_P15 hP, rd_P16 hP, rd_P17 hP, rd_P18 hP, rd_P19 hP, gR_k p0, gR_k p1, gO_N hNi, gR_N3 hNi, gR_N4 hNi, gR_N5 hNi, gR_N6 hNi, al_N14 hNi, al_N15 hNi, al_N16 hNi, al_N17 hNi, rd_N14 hNi, rd_N15 hNi, rd_N16 hNi, rd_N17 hNi, gO_S hS3, gR_S2 hS3, gR_S4 hS3, gR_S5 hS3, gR_S6 hS3, gR_S7 hS3, gR_S8 hS3, gR_S9 hS3, gR_S10 hS3, gR_S11 hS3, gR_S12 hS3, gR_S14 hS3, gR_S15 hS3, al_S1 hS3, al_S2 hS3, al_S3 hS3, al_S4 hS3, al_S5 hS3, al_S6 hS3, al_S7 hS3, al_S8 hS3, al_S9 hS3, al_S10 hS3, al_S11 hS3, al_S12 hS3, rd_S1 hS3, rd_S2 hS3, rd_S3 hS3, rd_S4 hS3, rd_S5 hS3, rd_S6 hS3, rd_S7 hS3, rd_S8 hS3, rd_S9 hS3, rd_S10 hS3, rd_S11 hS3, rd_S12 hS3, h3, x1, a1, Jl0, Jl1, Jl2, Jl3, Jl4, Jl5, Jl6, Jl7, Jl8, Jl9, Jl10, Jl11, Jl12, Jl13, Jl14, Jl15, Jl16, Jl17, Jl18, Jl19, Jl20, Jl22, Jl24, Jl28, Jl30, Jl31, Jl32, Jl35, Jl36, Jl37, Jl38, Jl39, Jl40, Jl48, Jl57, Jl59, Jl60, Jl61, Jl63, Jl64, Jl68, Jl69, Jl96, Jl97, Jl98, Jl99, Jl100, Jl122, Jl149, Jl150, Jl165, Jl255, Jl511, Jl512, Jl600, Jl610, Jl940, Jl968, Jl999, Jl1134, Jl1152, Jl2048, Jl4608, Jl9999, Jl99999, Jl100000, Jl147456, Jl12345, Jl1103515245, Jl100000000, Jlm1, Jlm2, J_add, J_sub, J_mul, J_lt, J_le, J_eq, J_ite, J_cl, ri_j, wi_j, b2i_z, b2i_o, b2i_zo, Int.cast_ofNat_Int, Int.natCast_zero, Int.natCast_one, if_true, if_false, ite_self, Int.le_refl, J_bit, J_or, J_neg, J_oN, Int.reduceEq, Int.reduceLT, Int.reduceLE, Int.reduceNeg, Int.reduceAdd, Int.reduceSub, Int.reduceMul, Int.reduceToNat, J_shl, J_shr, V_ite, true_or, or_true, nz_j, J_div, J_rem, Option.bind_some, Option.toList_some, Option.toList_none, List.cons_append, List.nil_append, Jl21, Jl23, Jl25, Jl74, Jl83, Jl288, Jl324, Jl1800, Jlm8]
      repeat (first | rw [if_neg (by omega)] | rw [if_pos (by omega)])) hn.1
  rw [sm_0] at LL
  simp (disch := omega) only [b39_0, e39, Jl0, Jl1, Jl2, Jl3, Jl4, Jl5, Jl6, Jl7, Jl8, Jl9, Jl10, Jl11, Jl12, Jl13, Jl14, Jl15, Jl16, Jl17, Jl18, Jl19, Jl20, Jl22, Jl24, Jl28, Jl30, Jl31, Jl32, Jl35, Jl36, Jl37, Jl38, Jl39, Jl40, Jl48, Jl57, Jl59, Jl60, Jl61, Jl63, Jl64, Jl68, Jl69, Jl96, Jl97, Jl98, Jl99, Jl100, Jl122, Jl149, Jl150, Jl165, Jl255, Jl511, Jl512, Jl600, Jl610, Jl940, Jl968, Jl999, Jl1134, Jl1152, Jl2048, Jl4608, Jl9999, Jl99999, Jl100000, Jl147456, Jl12345, Jl1103515245, Jl100000000, Jlm1, Jlm2, J_add, J_sub, J_mul, J_lt, J_le, J_eq, J_ite, J_cl, ri_j, wi_j, b2i_z, b2i_o, b2i_zo, Int.cast_ofNat_Int, Int.natCast_zero, Int.natCast_one, if_true, if_false, ite_self, Int.le_refl, J_bit, J_or, J_neg, J_oN, Int.reduceEq, Int.reduceLT, Int.reduceLE, Int.reduceNeg, Int.reduceAdd, Int.reduceSub, Int.reduceMul, Int.reduceToNat, J_shl, J_shr, V_ite, true_or, or_true, nz_j, J_div, J_rem, Option.bind_some, Option.toList_some, Option.toList_none, List.cons_append, List.nil_append, Jl21, Jl23, Jl25, Jl74, Jl83, Jl288, Jl324, Jl1800, Jlm8]
  refine LL.trans ?_
  rw [b39_4]
  simp (disch := omega) only [b39_64, gO_P hP, gR_P4 hP, gR_P6 hP, gR_P7 hP, gR_P8 hP, gR_P9 hP, gR_P10 hP, al_P14 hP, al_P15 hP, al_P16 hP, al_P17 hP, al_P18 hP, al_P19 hP, rd_P14 hP, rd_P15 hP, rd_P16 hP, rd_P17 hP, rd_P18 hP, rd_P19 hP, gR_k p1, gO_S hS3, gR_S2 hS3, gR_S4 hS3, gR_S5 hS3, gR_S6 hS3, gR_S7 hS3, gR_S8 hS3, gR_S9 hS3, gR_S10 hS3, gR_S11 hS3, gR_S12 hS3, gR_S14 hS3, gR_S15 hS3, al_S1 hS3, al_S2 hS3, al_S3 hS3, al_S4 hS3, al_S5 hS3, al_S6 hS3, al_S7 hS3, al_S8 hS3, al_S9 hS3, al_S10 hS3, al_S11 hS3, al_S12 hS3, rd_S1 hS3, rd_S2 hS3, rd_S3 hS3, rd_S4 hS3, rd_S5 hS3, rd_S6 hS3, rd_S7 hS3, rd_S8 hS3, rd_S9 hS3, rd_S10 hS3, rd_S11 hS3, rd_S12 hS3, h3, Jl0, Jl1, Jl2, Jl3, Jl4, Jl5, Jl6, Jl7, Jl8, Jl9, Jl10, Jl11, Jl12, Jl13, Jl14, Jl15, Jl16, Jl17, Jl18, Jl19, Jl20, Jl22, Jl24, Jl28, Jl30, Jl31, Jl32, Jl35, Jl36, Jl37, Jl38, Jl39, Jl40, Jl48, Jl57, Jl59, Jl60, Jl61, Jl63, Jl64, Jl68, Jl69, Jl96, Jl97, Jl98, Jl99, Jl100, Jl122, Jl149, Jl150, Jl165, Jl255, Jl511, Jl512, Jl600, Jl610, Jl940, Jl968, Jl999, Jl1134, Jl1152, Jl2048, Jl4608, Jl9999, Jl99999, Jl100000, Jl147456, Jl12345, Jl1103515245, Jl100000000, Jlm1, Jlm2, J_add, J_sub, J_mul, J_lt, J_le, J_eq, J_ite, J_cl, ri_j, wi_j, b2i_z, b2i_o, b2i_zo, Int.cast_ofNat_Int, Int.natCast_zero, Int.natCast_one, if_true, if_false, ite_self, Int.le_refl, J_bit, J_or, J_neg, J_oN, Int.reduceEq, Int.reduceLT, Int.reduceLE, Int.reduceNeg, Int.reduceAdd, Int.reduceSub, Int.reduceMul, Int.reduceToNat, J_shl, J_shr, V_ite, true_or, or_true, nz_j, J_div, J_rem, Option.bind_some, Option.toList_some, Option.toList_none, List.cons_append, List.nil_append, Jl21, Jl23, Jl25, Jl74, Jl83, Jl288, Jl324, Jl1800, Jlm8]
end CLASS
