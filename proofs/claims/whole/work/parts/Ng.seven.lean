/-! THE CLASS: lies of all are tried -/
def BP (I : Nat → Int → Int) (lo : Nat) (n : Int) (p : Int × Int) : Prop := (p.1 = -1 ∧ I (lo + 102) 2 = 100000000) ∨ (0 ≤ p.1 ∧ p.1 ≤ 9000 ∧ I (lo + 102) 2 = p.1 ∧ ∀ j, 0 ≤ j → j < n → I (lo + 102 + 14) j = lsQ n p.2 j)
def W7 (μ : rM) (I : Nat → Int → Int) (lo l t : Nat) (S L T : Nat → Int → Int) (k m : Int) (g : Int → Int) : Prop := V7 μ I lo l t S L T ∧ LT I lo S T ∧ (∀ j u, j ≠ k → 0 ≤ j → j < S 0 3 → 0 ≤ u → u < 36 → I (lo + 84 + 14) (j * 36 + u) = D7 S T m g (j * 36 + u)) ∧ ∀ j, 0 ≤ j → j < S 0 3 → I (lo + 102 + 18) j = alQ7 S L T (siS S) j
def FF7 (S L T : Nat → Int → Int) (c : Int) : Int := sm (fun j => dueS S L T (D7 S T (S 0 3) (lsQ (S 0 3) c)) (siS S) j) (S 0 3)
def TLP (E : (Nat → Value) × (Nat → Nat)) (lo l t : Nat) (μ : rM) (S L T : Nat → Int → Int) (m : Nat) : Prop := ∀ (d : Nat) (k pc : Int) (I : Nat → Int → Int) (p : Int × Int), m + 7 ≤ d → k = S 0 3 - ((m : Int) + 1) → 0 ≤ k → 0 ≤ pc → W7 μ I lo l t S L T (-1) k (lsQ k pc) → (∀ j, 0 ≤ j → j < k → I (lo + 102 + 16) j = lsQ k pc j) → BP I lo (S 0 3) p → ∃ I2, cl E lo d 38 [.ref ((lo + 102)), .int (J (k))] (mj μ I) = some (none, mj μ I2) ∧ W7 μ I2 lo l t S L T (-1) k (lsQ k pc) ∧ (∀ j, 0 ≤ j → j < k → I2 (lo + 102 + 16) j = lsQ k pc j) ∧ (∀ a, a ≠ lo + 84 + 14 → a ≠ lo + 84 + 16 → a ≠ lo + 84 + 17 → a ≠ lo + 102 → a ≠ lo + 102 + 14 → a ≠ lo + 102 + 16 → I2 a = I a) ∧ BP I2 lo (S 0 3) (fr (stF (FF7 S L T)) p (pc * 9 * p9 m) ((pc * 9 + 9) * p9 m))
section CLASS
variable {E : (Nat → Value) × (Nat → Nat)} {lo d s l t : Nat} {μ : rM} {I S L T R : Nat → Int → Int} {x y z w k u h a b n : Int}
theorem LT_fr {I' : Nat → Int → Int} (h : LT I lo S T) (hf : I' (lo + 102 + 17) = I (lo + 102 + 17)) : LT I' lo S T := by
  unfold LT at *
  rw [hf]
  exact h
theorem tl_in (hC : CO μ lo) (hV : SV S) (hLV : LV L) (hTV : TV T) (hs : l + 2 ≤ lo + 84 ∧ t + 5 ≤ lo + 84) (hn : S 0 3 ≤ 5) {m : Nat} (hrec : ∀ m', m = m' + 1 → TLP E lo l t μ S L T m') : TLP E lo l t μ S L T m := by
  intro d k pc I p hd hk hk0 hpc hW hrow hB
  obtain ⟨d, rfl⟩ : ∃ e, d = e + 1 := ⟨d - 1, by omega⟩
  have v := hV.1
  obtain ⟨p0, p1⟩ := hC.p
  have hP := hC.P102
  have hlP : lo ≤ lo + 102 := by omega
  have hNi := hC.N84
  have hS3 := hC.S103
  obtain ⟨P0, eP0⟩ : ∃ P0, P0 = p9 (m : Int) := ⟨_, rfl⟩
  have hP0 : 0 < P0 := by rw [eP0]; exact p9_p _
  rw [← eP0]
  have n3 : ∀ I', V7 μ I' lo l t S L T → I' (lo + 103) 3 = S 0 3 := fun I' h => h.2.1.1.2.2.1
  have hsi := siS_SIo hV
  obtain ⟨⟨I1, q4⟩, e1, w1, w2, w3, w4⟩ := loop (fun li (st : (Nat → Int → Int) × Option Value) => ex PG E lo d 38 21 [some (.ref ((lo + 102))), some (.int (J (k))), some (.int (J ((S 0 3)))), some (.int (J (li))), st.2] [] (mj μ st.1)) (fun li st => W7 μ st.1 lo l t S L T k k (lsQ k pc) ∧ (∀ j, 0 ≤ j → j < k → st.1 (lo + 102 + 16) j = lsQ k pc j) ∧ (∀ a, a ≠ lo + 84 + 14 → a ≠ lo + 84 + 16 → a ≠ lo + 84 + 17 → a ≠ lo + 102 → a ≠ lo + 102 + 14 → a ≠ lo + 102 + 16 → st.1 a = I a) ∧ BP st.1 lo (S 0 3) (fr (stF (FF7 S L T)) p (pc * 9 * P0) ((pc * 9 + li) * P0))) (a := 0) (n := 9) (fun li st f1 f2 hQ => by
    obtain ⟨I', q4⟩ := st
    dsimp only at hQ ⊢
    obtain ⟨⟨a1, a2, a3, a4⟩, r1, c1, b1⟩ := hQ
    obtain ⟨p', ep'⟩ : ∃ p', p' = fr (stF (FF7 S L T)) p (pc * 9 * P0) ((pc * 9 + li) * P0) := ⟨_, rfl⟩
    have m1 : pc * 9 * P0 ≤ (pc * 9 + li) * P0 := Int.mul_le_mul_of_nonneg_right (by omega) (by omega)
    have m2 : (pc * 9 + li) * P0 ≤ (pc * 9 + (li + 1)) * P0 := Int.mul_le_mul_of_nonneg_right (by omega) (by omega)
    have eapp : fr (stF (FF7 S L T)) p (pc * 9 * P0) ((pc * 9 + (li + 1)) * P0) = fr (stF (FF7 S L T)) p' ((pc * 9 + li) * P0) ((pc * 9 + (li + 1)) * P0) := by rw [ep']; exact fr_app _ _ ⟨m1, m2⟩
    rw [← ep'] at b1
    rw [eapp]
    obtain ⟨g1, eg1⟩ : ∃ g1, g1 = lsQ (k + 1) (pc * 9 + li) := ⟨_, rfl⟩
    have g1k : g1 k = li := by rw [eg1]; exact lsQ_k hk0 hpc (by omega)
    have g1j : ∀ j, 0 ≤ j → j < k → g1 j = lsQ k pc j := fun j q1 q2 => by rw [eg1]; exact lsQ_s hk0 hpc (by omega) ⟨q1, q2⟩
    have g1b : ∀ j, 0 ≤ g1 j ∧ g1 j ≤ 8 := fun j => by rw [eg1]; exact lsQ_b
    -- he lies down
    have hla := la_sp (E := E) (lo := lo) (d := d) (I := I') (li := li) (k := k) (by omega) hC (by omega) (by omega)
    obtain ⟨I2, eI2⟩ : ∃ I2, I2 = sA I' (lo + 84 + 14) (cpr (I' (lo + 102 + 17)) (I' (lo + 84 + 14)) ((k * 10 + li) * 36) (k * 36) 36) := ⟨_, rfl⟩
    rw [← eI2] at hla
    have c2 : ∀ a, a ≠ lo + 84 + 14 → I2 a = I' a := fun a q => by rw [eI2, sA_n q]
    have dv : ∀ j u, 0 ≤ j → j < S 0 3 → 0 ≤ u → u < 36 → I2 (lo + 84 + 14) (j * 36 + u) = D7 S T (k + 1) g1 (j * 36 + u) := fun j u q1 q2 q3 q4 => by
      rw [eI2, sA_s, cpr_v hk0 ⟨q3, q4⟩, D7_v ⟨q3, q4⟩]
      by_cases c : j = k
      · rw [if_pos c, if_pos (by omega), c, g1k]
        exact (a2 k u hk0 (by omega) q3 q4).1 li f1 f2
      · rw [if_neg c, a3 j u c q1 q2 q3 q4, D7_v ⟨q3, q4⟩]
        by_cases c2 : j < k
        · rw [if_pos c2, if_pos (by omega), g1j j q1 c2]
        · rw [if_neg c2, if_neg (by omega)]
    have hDV2 : DV (I2 (lo + 84 + 14)) := fun i q1 q2 => by
      have e : i = i / 36 * 36 + i % 36 := by omega
      rw [eI2, sA_s, e, cpr_v hk0 (by omega)]
      by_cases c : i / 36 = k
      · rw [if_pos c, (a2 k (i % 36) hk0 (by omega) (by omega) (by omega)).1 li f1 f2]
        exact LAQ_b hV (by omega) (by omega) (by omega)
      · rw [if_neg c, ← e]
        exact a1.1.2.2.2.2.2.2.2.2.2.2.2.1 i q1 q2
    have h72 : V7 μ I2 lo l t S L T := V7_fr a1 hV hs (fun a q _ _ => c2 a (by omega)) (c2 _ (by omega)) hDV2 (fun j q1 q2 => by rw [c2 _ (by omega), c2 _ (by omega)]; exact a1.2.2.1 j q1 q2)
    have dle : dLe S (D7 S T (k + 1) g1) (D7 S T (k + 1) g1) := D7_le hV (fun j _ _ => g1b j)
    obtain ⟨I3, e3, h73, c3, d3⟩ := rk7_sp (E := E) (lo := lo) (d := d) (X := D7 S T (k + 1) g1) (by omega) hV hs h72 dv dle
    have db : ∀ j, 0 ≤ j → j < S 0 3 → 0 ≤ dueS S L T (D7 S T (k + 1) g1) (siS S) j ∧ dueS S L T (D7 S T (k + 1) g1) (siS S) j ≤ 999 := fun j q1 q2 => due_0 hV hLV hTV dle hsi ⟨q1, q2⟩
    have a43 : ∀ j, 0 ≤ j → j < S 0 3 → I3 (lo + 102 + 18) j = alQ7 S L T (siS S) j := fun j q1 q2 => by rw [c3 _ (by omega) (by omega), c2 _ (by omega)]; exact a4 j q1 q2
    have h39 := ld7_sp (E := E) (lo := lo) (d := d) (I := I3) (n := S 0 3) (k := k) (X := fun j => dueS S L T (D7 S T (k + 1) g1) (siS S) j) (al := fun j => alQ7 S L T (siS S) j) (by omega) hC (by omega) (n3 I3 h73) (by omega) (fun j q1 q2 => ⟨d3 j q1 q2, db j q1 q2⟩) (fun j q1 q2 => ⟨a43 j q1 q2, alQ7_b hV hLV hTV ⟨q1, q2⟩⟩)
    obtain ⟨LB, eLB⟩ : ∃ LB, LB = LBQ S L T (siS S) g1 k := ⟨_, rfl⟩
    have h39' : cl E lo d 39 [.ref (lo + 102), .int (J k)] (mj μ I3) = some (some (.int (J LB)), mj μ I3) := by rw [h39, eLB]; rfl
    have lbb : 0 ≤ LB ∧ LB ≤ 9000 := by
      have := sm_b (fun j => if j ≤ k then dueS S L T (D7 S T (k + 1) g1) (siS S) j else if dueS S L T (D7 S T (k + 1) g1) (siS S) j < alQ7 S L T (siS S) j then alQ7 S L T (siS S) j else dueS S L T (D7 S T (k + 1) g1) (siS S) j) (n := S 0 3) (A := 0) (B := 999) (by omega) (fun j q1 q2 => by
        have y1 := db j q1 q2
        have y2 := alQ7_b (L := L) hV hLV hTV (k := j) ⟨q1, q2⟩
        split
        · omega
        · split <;> omega)
      rw [eLB]
      unfold LBQ
      omega
    have hblk : ∀ c, (pc * 9 + li) * P0 ≤ c → c < (pc * 9 + (li + 1)) * P0 → 0 ≤ c ∧ c / P0 = pc * 9 + li := fun c q1 q2 => by
      have z1 : pc * 9 + li ≤ c / P0 := Int.le_ediv_of_mul_le hP0 q1
      have z2 : c / P0 < pc * 9 + (li + 1) := Int.ediv_lt_of_lt_mul hP0 q2
      have z3 : 0 ≤ (pc * 9 + li) * P0 := Int.mul_nonneg (by omega) (by omega)
      exact ⟨by omega, by omega⟩
    have hLBF : ∀ c, (pc * 9 + li) * P0 ≤ c → c < (pc * 9 + (li + 1)) * P0 → LB ≤ FF7 S L T c := fun c q1 q2 => by
      obtain ⟨z1, z2⟩ := hblk c q1 q2
      rw [eLB]
      refine LB_le hV hLV hTV hsi hk0 (fun j _ _ => lsQ_b) (fun j y1 y2 => ?_)
      rw [lsQ_0 (n := S 0 3) (k := k + 1) (by omega) z1 (by omega), show S 0 3 - (k + 1) = (m : Int) by omega, ← eP0, z2, eg1]
    have i2 : I3 (lo + 102) 2 = I' (lo + 102) 2 := by rw [c3 _ (by omega) (by omega), c2 _ (by omega)]
    have i14 : I3 (lo + 102 + 14) = I' (lo + 102 + 14) := by rw [c3 _ (by omega) (by omega), c2 _ (by omega)]
    have i16 : I3 (lo + 102 + 16) = I' (lo + 102 + 16) := by rw [c3 _ (by omega) (by omega), c2 _ (by omega)]
    have i17 : I3 (lo + 102 + 17) = I' (lo + 102 + 17) := by rw [c3 _ (by omega) (by omega), c2 _ (by omega)]
    have b3 : BP I3 lo (S 0 3) p' := by
      unfold BP at b1 ⊢
      rw [i2, i14]
      exact b1
    have bst : 0 ≤ I3 (lo + 102) 2 ∧ I3 (lo + 102) 2 ≤ 100000000 := by
      rcases b3 with q | q <;> omega
    have w73 : ∀ I4, V7 μ I4 lo l t S L T → (∀ a, a = lo + 84 + 14 ∨ a = lo + 102 + 17 ∨ a = lo + 102 + 18 → I4 a = I3 a) → W7 μ I4 lo l t S L T k k (lsQ k pc) := fun I4 q1 q2 => by
      refine ⟨q1, LT_fr a2 (by rw [q2 _ (by simp), i17]), fun j u z0 z1 z2 z3 z4 => ?_, fun j z1 z2 => by rw [q2 _ (by simp)]; exact a43 j z1 z2⟩
      rw [q2 _ (by simp), c3 _ (by omega) (by omega), dv j u z1 z2 z3 z4, D7_v ⟨z3, z4⟩, D7_v ⟨z3, z4⟩]
      by_cases cj : j < k
      · rw [if_pos cj, if_pos (by omega), g1j j z1 cj]
      · rw [if_neg cj, if_neg (by omega)]
    have head : ex PG E lo d 38 21 [some (.ref ((lo + 102))), some (.int (J (k))), some (.int (J ((S 0 3)))), some (.int (J (li))), q4] [] (mj μ I') = ex PG E lo d 38 45 [some (.ref ((lo + 102))), some (.int (J (k))), some (.int (J ((S 0 3)))), some (.int (J (li))), q4] [.int (J (LB))] (mj μ I3) := by
      rw [b38_21]
      simp (disch := omega) only [b38_27, b38_33, b38_40, gO_P hP, gR_P4 hP, gR_P6 hP, gR_P7 hP, gR_P8 hP, gR_P9 hP, gR_P10 hP, al_P14 hP, al_P15 hP, al_P16 hP, al_P17 hP, al_P18 hP, al_P19 hP, rd_P14 hP, rd_P15 hP, rd_P16 hP, rd_P17 hP, rd_P18 hP, rd_P19 hP, gR_k p0, gO_N hNi, gR_N3 hNi, gR_N4 hNi, gR_N5 hNi, gR_N6 hNi, al_N14 hNi, al_N15 hNi, al_N16 hNi, al_N17 hNi, rd_N14 hNi, rd_N15 hNi, rd_N16 hNi, rd_N17 hNi, hla, e3, h39', Jl0, Jl1, Jl2, Jl3, Jl4, Jl5, Jl6, Jl7, Jl8, Jl9, Jl10, Jl11, Jl12, Jl13, Jl14, Jl15, Jl16, Jl17, Jl18, Jl19, Jl20, Jl22, Jl24, Jl28, Jl30, Jl31, Jl32, Jl35, Jl36, Jl37, Jl38, Jl39, Jl40, Jl48, Jl57, Jl59, Jl60, Jl61, Jl63, Jl64, Jl68, Jl69, Jl96, Jl97, Jl98, Jl99, Jl100, Jl122, Jl149, Jl150, Jl165, Jl255, Jl511, Jl512, Jl600, Jl610, Jl940, Jl968, Jl999, Jl1134, Jl1152, Jl2048, Jl4608, Jl9999, Jl99999, Jl100000, Jl147456, Jl12345, Jl1103515245, Jl100000000, Jlm1, Jlm2, J_add, J_sub, J_mul, J_lt, J_le, J_eq, J_ite, J_cl, ri_j, wi_j, b2i_z, b2i_o, b2i_zo, Int.cast_ofNat_Int, Int.natCast_zero, Int.natCast_one, if_true, if_false, ite_self, Int.le_refl, J_bit, J_or, J_neg, J_oN, Int.reduceEq, Int.reduceLT, Int.reduceLE, Int.reduceNeg, Int.reduceAdd, Int.reduceSub, Int.reduceMul, Int.reduceToNat, J_shl, J_shr, V_ite, true_or, or_true, nz_j, J_div, J_rem, Option.bind_some, Option.toList_some, Option.toList_none, List.cons_append, List.nil_append, Jl21, Jl23, Jl25, Jl74, Jl83, Jl288, Jl324, Jl1800, Jlm8]
      repeat (first | rw [if_neg (by omega)] | rw [if_pos (by omega)])
    rw [head]
    by_cases cb : I3 (lo + 102) 2 ≤ LB
    · -- too dear
      have hid : fr (stF (FF7 S L T)) p' ((pc * 9 + li) * P0) ((pc * 9 + (li + 1)) * P0) = p' := fr_id _ _ (fun c q1 q2 => by
        have z := hLBF c q1 q2
        unfold stF
        rw [if_neg]
        intro q
        rcases b3 with y | y
        · omega
        · omega)
      rw [hid]
      refine ⟨(I3, some (.int (J LB))), ?_, w73 I3 h73 (fun _ _ => rfl), fun j q1 q2 => by dsimp only; rw [i16]; exact r1 j q1 q2, fun a q1 q2 q3 q4 q5 q6 => ?_, b3⟩
      · dsimp only
        simp (disch := omega) only [b38_45, b38_101, gO_P hP, gR_P4 hP, gR_P6 hP, gR_P7 hP, gR_P8 hP, gR_P9 hP, gR_P10 hP, al_P14 hP, al_P15 hP, al_P16 hP, al_P17 hP, al_P18 hP, al_P19 hP, rd_P14 hP, rd_P15 hP, rd_P16 hP, rd_P17 hP, rd_P18 hP, rd_P19 hP, Jl0, Jl1, Jl2, Jl3, Jl4, Jl5, Jl6, Jl7, Jl8, Jl9, Jl10, Jl11, Jl12, Jl13, Jl14, Jl15, Jl16, Jl17, Jl18, Jl19, Jl20, Jl22, Jl24, Jl28, Jl30, Jl31, Jl32, Jl35, Jl36, Jl37, Jl38, Jl39, Jl40, Jl48, Jl57, Jl59, Jl60, Jl61, Jl63, Jl64, Jl68, Jl69, Jl96, Jl97, Jl98, Jl99, Jl100, Jl122, Jl149, Jl150, Jl165, Jl255, Jl511, Jl512, Jl600, Jl610, Jl940, Jl968, Jl999, Jl1134, Jl1152, Jl2048, Jl4608, Jl9999, Jl99999, Jl100000, Jl147456, Jl12345, Jl1103515245, Jl100000000, Jlm1, Jlm2, J_add, J_sub, J_mul, J_lt, J_le, J_eq, J_ite, J_cl, ri_j, wi_j, b2i_z, b2i_o, b2i_zo, Int.cast_ofNat_Int, Int.natCast_zero, Int.natCast_one, if_true, if_false, ite_self, Int.le_refl, J_bit, J_or, J_neg, J_oN, Int.reduceEq, Int.reduceLT, Int.reduceLE, Int.reduceNeg, Int.reduceAdd, Int.reduceSub, Int.reduceMul, Int.reduceToNat, J_shl, J_shr, V_ite, true_or, or_true, nz_j, J_div, J_rem, Option.bind_some, Option.toList_some, Option.toList_none, List.cons_append, List.nil_append, Jl21, Jl23, Jl25, Jl74, Jl83, Jl288, Jl324, Jl1800, Jlm8]
        repeat (first | rw [if_neg (by omega)] | rw [if_pos (by omega)])
      · dsimp only
        rw [c3 a q2 q3, c2 a q1]; exact c1 a q1 q2 q3 q4 q5 q6
    · -- better than all so far
      obtain ⟨I4, eI4⟩ : ∃ I4, I4 = u3 I3 (lo + 102 + 16) k li := ⟨_, rfl⟩
      have c4 : ∀ a, a ≠ lo + 102 + 16 → I4 a = I3 a := fun a q => by rw [eI4, u3_c q]
      have r4 : ∀ j, 0 ≤ j → j ≤ k → I4 (lo + 102 + 16) j = g1 j := fun j q1 q2 => by
        by_cases c : j = k
        · rw [c, eI4, u3_s, g1k]
        · rw [eI4, u3_n (by omega), i16, r1 j q1 (by omega), g1j j q1 (by omega)]
      have h74 : V7 μ I4 lo l t S L T := V7_fr h73 hV hs (fun a q _ _ => c4 a (by omega)) (c4 _ (by omega)) (by rw [c4 _ (by omega)]; exact h73.1.2.2.2.2.2.2.2.2.2.2.2.1) (fun j q1 q2 => by rw [c4 _ (by omega), c4 _ (by omega)]; exact h73.2.2.1 j q1 q2)
      cases m with
      | zero =>
        have kn : k + 1 = S 0 3 := by omega
        have P1 : P0 = 1 := by rw [eP0]; rfl
        have eF : FF7 S L T (pc * 9 + li) = LB := by
          rw [eLB, LB_eq kn]
          unfold FF7
          rw [eg1, kn]
        have est : fr (stF (FF7 S L T)) p' ((pc * 9 + li) * P0) ((pc * 9 + (li + 1)) * P0) = (LB, pc * 9 + li) := by
          rw [P1, Int.mul_one, Int.mul_one, show pc * 9 + (li + 1) = pc * 9 + li + 1 by omega, fr_s _ _ (by omega), fr_n]
          unfold stF
          rw [eF, if_pos]
          rcases b3 with y | y
          · exact Or.inl y.1
          · right; omega
        rw [est]
        have hac := fun X (r : Option rRs) => acp_k (μ := μ) (lo := lo) (I := X) (r := r) (x := 0) (y := 0) (w := 9) (hP.2 (7, 16, 0, 9) (by decide)).2 (hP.2 (4, 14, 0, 9) (by decide)).2 (Or.inl rfl) (by dsimp only; omega) (by dsimp only; omega)
        obtain ⟨I6, eI6⟩ : ∃ I6, I6 = sA (u3 I4 (lo + 102) 2 LB) (lo + 102 + 14) (cpr (u3 I4 (lo + 102) 2 LB (lo + 102 + 16)) (u3 I4 (lo + 102) 2 LB (lo + 102 + 14)) 0 0 9) := ⟨_, rfl⟩
        have c6 : ∀ a, a ≠ lo + 102 → a ≠ lo + 102 + 14 → I6 a = I4 a := fun a q1 q2 => by rw [eI6, sA_n q2, u3_c q1]
        have h76 : V7 μ I6 lo l t S L T := V7_fr h74 hV hs (fun a q _ _ => c6 a (by omega) (by omega)) (c6 _ (by omega) (by omega)) (by rw [c6 _ (by omega) (by omega)]; exact h74.1.2.2.2.2.2.2.2.2.2.2.2.1) (fun j q1 q2 => by rw [c6 _ (by omega) (by omega), c6 _ (by omega) (by omega)]; exact h74.2.2.1 j q1 q2)
        refine ⟨(I6, some (.int (J LB))), ?_, w73 I6 h76 (fun a q => by rw [c6 a (by omega) (by omega), c4 a (by omega)]), fun j q1 q2 => ?_, fun a q1 q2 q3 q4 q5 q6 => ?_, Or.inr ⟨lbb.1, lbb.2, ?_, fun j q1 q2 => ?_⟩⟩
        · dsimp only
          rw [eI6]
          simp (disch := omega) only [b38_45, b38_56, b38_63, b38_70, b38_76, b38_91, b38_101, gO_P hP, gR_P4 hP, gR_P6 hP, gR_P7 hP, gR_P8 hP, gR_P9 hP, gR_P10 hP, al_P14 hP, al_P15 hP, al_P16 hP, al_P17 hP, al_P18 hP, al_P19 hP, rd_P14 hP, rd_P15 hP, rd_P16 hP, rd_P17 hP, rd_P18 hP, rd_P19 hP, gP_P hP hlP, wr_P14 hP hlP, wr_P15 hP hlP, wr_P16 hP hlP, wr_P17 hP hlP, wr_P18 hP hlP, wr_P19 hP hlP, eI4.symm, hac, cp_j, kn, Jl0, Jl1, Jl2, Jl3, Jl4, Jl5, Jl6, Jl7, Jl8, Jl9, Jl10, Jl11, Jl12, Jl13, Jl14, Jl15, Jl16, Jl17, Jl18, Jl19, Jl20, Jl22, Jl24, Jl28, Jl30, Jl31, Jl32, Jl35, Jl36, Jl37, Jl38, Jl39, Jl40, Jl48, Jl57, Jl59, Jl60, Jl61, Jl63, Jl64, Jl68, Jl69, Jl96, Jl97, Jl98, Jl99, Jl100, Jl122, Jl149, Jl150, Jl165, Jl255, Jl511, Jl512, Jl600, Jl610, Jl940, Jl968, Jl999, Jl1134, Jl1152, Jl2048, Jl4608, Jl9999, Jl99999, Jl100000, Jl147456, Jl12345, Jl1103515245, Jl100000000, Jlm1, Jlm2, J_add, J_sub, J_mul, J_lt, J_le, J_eq, J_ite, J_cl, ri_j, wi_j, b2i_z, b2i_o, b2i_zo, Int.cast_ofNat_Int, Int.natCast_zero, Int.natCast_one, if_true, if_false, ite_self, Int.le_refl, J_bit, J_or, J_neg, J_oN, Int.reduceEq, Int.reduceLT, Int.reduceLE, Int.reduceNeg, Int.reduceAdd, Int.reduceSub, Int.reduceMul, Int.reduceToNat, J_shl, J_shr, V_ite, true_or, or_true, nz_j, J_div, J_rem, Option.bind_some, Option.toList_some, Option.toList_none, List.cons_append, List.nil_append, Jl21, Jl23, Jl25, Jl74, Jl83, Jl288, Jl324, Jl1800, Jlm8]
          repeat (first | rw [if_neg (by omega)] | rw [if_pos (by omega)])
        · dsimp only
          rw [c6 _ (by omega) (by omega), r4 j q1 (by omega), g1j j q1 q2]
        · dsimp only
          rw [c6 a q4 q5, c4 a q6, c3 a q2 q3, c2 a q1]; exact c1 a q1 q2 q3 q4 q5 q6
        · dsimp only
          rw [eI6, sA_n (by omega), u3_s]
        · dsimp only
          rw [eI6, sA_s]
          unfold cpr
          rw [if_pos (by omega), show (0 : Int) + (j - 0) = j by omega, u3_c (by omega), r4 j q1 (by omega), eg1, kn]
      | succ m =>
        have P1 : P0 = p9 (m : Int) * 9 := by rw [eP0, show ((m + 1 : Nat) : Int) = (m : Int) + 1 by omega, p9_s (by omega)]
        have hW4 : W7 μ I4 lo l t S L T (-1) (k + 1) (lsQ (k + 1) (pc * 9 + li)) := by
          refine ⟨h74, LT_fr a2 (by rw [c4 _ (by omega), i17]), fun j u z0 z1 z2 z3 z4 => ?_, fun j z1 z2 => by rw [c4 _ (by omega)]; exact a43 j z1 z2⟩
          rw [c4 _ (by omega), c3 _ (by omega) (by omega), dv j u z1 z2 z3 z4, eg1]
        have b4 : BP I4 lo (S 0 3) p' := by
          unfold BP at b3 ⊢
          rw [c4 _ (by omega), c4 _ (by omega)]
          exact b3
        obtain ⟨I5, e5, y1, y2, y3, y4⟩ := hrec m rfl d (k + 1) (pc * 9 + li) I4 p' (by omega) (by omega) (by omega) (by omega) hW4 (fun j q1 q2 => by rw [r4 j q1 (by omega), eg1]) b4
        have ee1 : (pc * 9 + li) * 9 * p9 (m : Int) = (pc * 9 + li) * P0 := by rw [P1, Int.mul_assoc, Int.mul_comm 9 (p9 (m : Int))]
        have ee2 : ((pc * 9 + li) * 9 + 9) * p9 (m : Int) = (pc * 9 + (li + 1)) * P0 := by
          rw [P1, show (pc * 9 + li) * 9 + 9 = (pc * 9 + (li + 1)) * 9 by omega, Int.mul_assoc, Int.mul_comm 9 (p9 (m : Int))]
        rw [ee1, ee2] at y4
        refine ⟨(I5, some (.int (J LB))), ?_, ⟨y1.1, y1.2.1, fun j u z0 z1 z2 z3 z4 => ?_, y1.2.2.2⟩, fun j q1 q2 => ?_, fun a q1 q2 q3 q4 q5 q6 => ?_, y4⟩
        · dsimp only
          simp (disch := omega) only [b38_45, b38_56, b38_63, b38_94, b38_101, gO_P hP, gR_P4 hP, gR_P6 hP, gR_P7 hP, gR_P8 hP, gR_P9 hP, gR_P10 hP, al_P14 hP, al_P15 hP, al_P16 hP, al_P17 hP, al_P18 hP, al_P19 hP, rd_P14 hP, rd_P15 hP, rd_P16 hP, rd_P17 hP, rd_P18 hP, rd_P19 hP, gP_P hP hlP, wr_P14 hP hlP, wr_P15 hP hlP, wr_P16 hP hlP, wr_P17 hP hlP, wr_P18 hP hlP, wr_P19 hP hlP, eI4.symm, e5, Jl0, Jl1, Jl2, Jl3, Jl4, Jl5, Jl6, Jl7, Jl8, Jl9, Jl10, Jl11, Jl12, Jl13, Jl14, Jl15, Jl16, Jl17, Jl18, Jl19, Jl20, Jl22, Jl24, Jl28, Jl30, Jl31, Jl32, Jl35, Jl36, Jl37, Jl38, Jl39, Jl40, Jl48, Jl57, Jl59, Jl60, Jl61, Jl63, Jl64, Jl68, Jl69, Jl96, Jl97, Jl98, Jl99, Jl100, Jl122, Jl149, Jl150, Jl165, Jl255, Jl511, Jl512, Jl600, Jl610, Jl940, Jl968, Jl999, Jl1134, Jl1152, Jl2048, Jl4608, Jl9999, Jl99999, Jl100000, Jl147456, Jl12345, Jl1103515245, Jl100000000, Jlm1, Jlm2, J_add, J_sub, J_mul, J_lt, J_le, J_eq, J_ite, J_cl, ri_j, wi_j, b2i_z, b2i_o, b2i_zo, Int.cast_ofNat_Int, Int.natCast_zero, Int.natCast_one, if_true, if_false, ite_self, Int.le_refl, J_bit, J_or, J_neg, J_oN, Int.reduceEq, Int.reduceLT, Int.reduceLE, Int.reduceNeg, Int.reduceAdd, Int.reduceSub, Int.reduceMul, Int.reduceToNat, J_shl, J_shr, V_ite, true_or, or_true, nz_j, J_div, J_rem, Option.bind_some, Option.toList_some, Option.toList_none, List.cons_append, List.nil_append, Jl21, Jl23, Jl25, Jl74, Jl83, Jl288, Jl324, Jl1800, Jlm8]
          repeat (first | rw [if_neg (by omega)] | rw [if_pos (by omega)])
        · dsimp only
          rw [y1.2.2.1 j u (by omega) z1 z2 z3 z4, D7_v ⟨z3, z4⟩, D7_v ⟨z3, z4⟩, ← eg1]
          by_cases cj : j < k
          · rw [if_pos cj, if_pos (by omega), g1j j z1 cj]
          · rw [if_neg cj, if_neg (by omega)]
        · dsimp only
          rw [y2 j q1 (by omega), ← eg1]
          exact g1j j q1 q2
        · dsimp only
          rw [y3 a q1 q2 q3 q4 q5 q6, c4 a q6, c3 a q2 q3, c2 a q1]; exact c1 a q1 q2 q3 q4 q5 q6) (by omega) (I, none) ⟨⟨hW.1, hW.2.1, fun j u _ z1 z2 z3 z4 => hW.2.2.1 j u (by omega) z1 z2 z3 z4, hW.2.2.2⟩, hrow, fun _ _ _ _ _ _ _ => rfl, by
      dsimp only
      rw [show (pc * 9 + 0) * P0 = pc * 9 * P0 by rw [Int.add_zero], fr_n]
      exact hB⟩
  dsimp only at e1 w1 w2 w3 w4
  obtain ⟨a1, a2, a3, a4⟩ := w1
  have hdz := doz_sp (E := E) (lo := lo) (d := d) (I := I1) (by omega) hC (k := k) (by omega)
  obtain ⟨I3, eI3⟩ : ∃ I3, I3 = sA I1 (lo + 84 + 14) (cpr (I1 (lo + 102 + 17)) (I1 (lo + 84 + 14)) ((k * 10 + 9) * 36) (k * 36) 36) := ⟨_, rfl⟩
  rw [← eI3] at hdz
  have c3 : ∀ a, a ≠ lo + 84 + 14 → I3 a = I1 a := fun a q => by rw [eI3, sA_n q]
  have kd : ∀ u, 0 ≤ u → u < 36 → I1 (lo + 102 + 17) ((k * 10 + 9) * 36 + u) = DZQ S T k u := fun u q1 q2 => (a2 k u hk0 (by omega) q1 q2).2
  have hDV3 : DV (I3 (lo + 84 + 14)) := fun i q1 q2 => by
    have e : i = i / 36 * 36 + i % 36 := by omega
    rw [eI3, sA_s, e, cpr_v hk0 (by omega)]
    by_cases c : i / 36 = k
    · rw [if_pos c, kd _ (by omega) (by omega)]
      have := DZQ_b (T := T) (k := k) (u := i % 36) hV (by omega) (by omega)
      omega
    · rw [if_neg c, ← e]
      exact a1.1.2.2.2.2.2.2.2.2.2.2.2.1 i q1 q2
  have h73 : V7 μ I3 lo l t S L T := V7_fr a1 hV hs (fun a q _ _ => c3 a (by omega)) (c3 _ (by omega)) hDV3 (fun j q1 q2 => by rw [c3 _ (by omega), c3 _ (by omega)]; exact a1.2.2.1 j q1 q2)
  refine ⟨I3, ?_, ⟨h73, LT_fr a2 (c3 _ (by omega)), fun j u _ z1 z2 z3 z4 => ?_, fun j z1 z2 => by rw [c3 _ (by omega)]; exact a4 j z1 z2⟩, fun j q1 q2 => by rw [c3 _ (by omega)]; exact w2 j q1 q2, fun a q1 q2 q3 q4 q5 q6 => by rw [c3 a q1]; exact w3 a q1 q2 q3 q4 q5 q6, ?_⟩
  · have i3 := n3 I hW.1
    simp (disch := omega) only [b38_0, b38_13, b38_19, e38, gO_P hP, gR_P4 hP, gR_P6 hP, gR_P7 hP, gR_P8 hP, gR_P9 hP, gR_P10 hP, al_P14 hP, al_P15 hP, al_P16 hP, al_P17 hP, al_P18 hP, al_P19 hP, rd_P14 hP, rd_P15 hP, rd_P16 hP, rd_P17 hP, rd_P18 hP, rd_P19 hP, gR_k p1, gO_S hS3, gR_S2 hS3, gR_S4 hS3, gR_S5 hS3, gR_S6 hS3, gR_S7 hS3, gR_S8 hS3, gR_S9 hS3, gR_S10 hS3, gR_S11 hS3, gR_S12 hS3, gR_S14 hS3, gR_S15 hS3, al_S1 hS3, al_S2 hS3, al_S3 hS3, al_S4 hS3, al_S5 hS3, al_S6 hS3, al_S7 hS3, al_S8 hS3, al_S9 hS3, al_S10 hS3, al_S11 hS3, al_S12 hS3, rd_S1 hS3, rd_S2 hS3, rd_S3 hS3, rd_S4 hS3, rd_S5 hS3, rd_S6 hS3, rd_S7 hS3, rd_S8 hS3, rd_S9 hS3, rd_S10 hS3, rd_S11 hS3, rd_S12 hS3, i3, Jl0, Jl1, Jl2, Jl3, Jl4, Jl5, Jl6, Jl7, Jl8, Jl9, Jl10, Jl11, Jl12, Jl13, Jl14, Jl15, Jl16, Jl17, Jl18, Jl19, Jl20, Jl22, Jl24, Jl28, Jl30, Jl31, Jl32, Jl35, Jl36, Jl37, Jl38, Jl39, Jl40, Jl48, Jl57, Jl59, Jl60, Jl61, Jl63, Jl64, Jl68, Jl69, Jl96, Jl97, Jl98, Jl99, Jl100, Jl122, Jl149, Jl150, Jl165, Jl255, Jl511, Jl512, Jl600, Jl610, Jl940, Jl968, Jl999, Jl1134, Jl1152, Jl2048, Jl4608, Jl9999, Jl99999, Jl100000, Jl147456, Jl12345, Jl1103515245, Jl100000000, Jlm1, Jlm2, J_add, J_sub, J_mul, J_lt, J_le, J_eq, J_ite, J_cl, ri_j, wi_j, b2i_z, b2i_o, b2i_zo, Int.cast_ofNat_Int, Int.natCast_zero, Int.natCast_one, if_true, if_false, ite_self, Int.le_refl, J_bit, J_or, J_neg, J_oN, Int.reduceEq, Int.reduceLT, Int.reduceLE, Int.reduceNeg, Int.reduceAdd, Int.reduceSub, Int.reduceMul, Int.reduceToNat, J_shl, J_shr, V_ite, true_or, or_true, nz_j, J_div, J_rem, Option.bind_some, Option.toList_some, Option.toList_none, List.cons_append, List.nil_append, Jl21, Jl23, Jl25, Jl74, Jl83, Jl288, Jl324, Jl1800, Jlm8]
    repeat (first | rw [if_neg (by omega)] | rw [if_pos (by omega)])
    rw [e1, b38_21]
    simp (disch := omega) only [b38_107, b38_112, gO_P hP, gR_P4 hP, gR_P6 hP, gR_P7 hP, gR_P8 hP, gR_P9 hP, gR_P10 hP, al_P14 hP, al_P15 hP, al_P16 hP, al_P17 hP, al_P18 hP, al_P19 hP, rd_P14 hP, rd_P15 hP, rd_P16 hP, rd_P17 hP, rd_P18 hP, rd_P19 hP, hdz, Jl0, Jl1, Jl2, Jl3, Jl4, Jl5, Jl6, Jl7, Jl8, Jl9, Jl10, Jl11, Jl12, Jl13, Jl14, Jl15, Jl16, Jl17, Jl18, Jl19, Jl20, Jl22, Jl24, Jl28, Jl30, Jl31, Jl32, Jl35, Jl36, Jl37, Jl38, Jl39, Jl40, Jl48, Jl57, Jl59, Jl60, Jl61, Jl63, Jl64, Jl68, Jl69, Jl96, Jl97, Jl98, Jl99, Jl100, Jl122, Jl149, Jl150, Jl165, Jl255, Jl511, Jl512, Jl600, Jl610, Jl940, Jl968, Jl999, Jl1134, Jl1152, Jl2048, Jl4608, Jl9999, Jl99999, Jl100000, Jl147456, Jl12345, Jl1103515245, Jl100000000, Jlm1, Jlm2, J_add, J_sub, J_mul, J_lt, J_le, J_eq, J_ite, J_cl, ri_j, wi_j, b2i_z, b2i_o, b2i_zo, Int.cast_ofNat_Int, Int.natCast_zero, Int.natCast_one, if_true, if_false, ite_self, Int.le_refl, J_bit, J_or, J_neg, J_oN, Int.reduceEq, Int.reduceLT, Int.reduceLE, Int.reduceNeg, Int.reduceAdd, Int.reduceSub, Int.reduceMul, Int.reduceToNat, J_shl, J_shr, V_ite, true_or, or_true, nz_j, J_div, J_rem, Option.bind_some, Option.toList_some, Option.toList_none, List.cons_append, List.nil_append, Jl21, Jl23, Jl25, Jl74, Jl83, Jl288, Jl324, Jl1800, Jlm8]
  · rw [eI3, sA_s, cpr_v hk0 ⟨z3, z4⟩]
    by_cases c : j = k
    · rw [if_pos c, kd u z3 z4, D7_v ⟨z3, z4⟩, if_neg (by omega), c]
    · rw [if_neg c]; exact a3 j u c z1 z2 z3 z4
  · unfold BP at w4 ⊢
    rw [c3 _ (by omega), c3 _ (by omega)]
    exact w4
theorem tl_all (hC : CO μ lo) (hV : SV S) (hLV : LV L) (hTV : TV T) (hs : l + 2 ≤ lo + 84 ∧ t + 5 ≤ lo + 84) (hn : S 0 3 ≤ 5) : ∀ m : Nat, TLP E lo l t μ S L T m := by
  intro m
  induction m with
  | zero => exact tl_in hC hV hLV hTV hs hn (fun m' q => by omega)
  | succ m ih => exact tl_in hC hV hLV hTV hs hn (fun m' q => by
      obtain rfl : m = m' := by omega
      exact ih)
end CLASS
