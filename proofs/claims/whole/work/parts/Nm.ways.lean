/-! THE CLASS: ways are counted, one house on -/
section WAYS
variable {E : (Nat → Value) × (Nat → Nat)} {lo d a b s : Nat} {μ : rM} {I Q S L : Nat → Int → Int} {x y v h u k w n : Int}
/-- ready for counting: the street, who is above the mark -/
def WR (μ : rM) (I : Nat → Int → Int) (lo s : Nat) (S L : Nat → Int → Int) : Prop := CO μ lo ∧ rr μ (lo + 122) 3 = some s ∧ AtS μ I s S ∧ ∀ t w, 0 ≤ t → t < 8 → 0 ≤ w → w < 36 → I (lo + 122 + 18) (t * 36 + w) = abQ S L t w
theorem go_sp (hd : 2 ≤ d) (hR : WR μ I lo s S L) (hV : SV S) (h8 : rr μ (lo + 122) 8 = some a) (h9 : rr μ (lo + 122) 9 = some b) (ka : rk μ a = some (.inr (3, 288))) (kb : rk μ b = some (.inr (3, 288))) (hab : a ≠ b) (hlb : lo ≤ b) (hh : 0 ≤ h ∧ h < S 0 0) (hu : 0 ≤ u ∧ u < 36) (hw : 0 ≤ w ∧ w < 512) : ∃ g, cl E lo d 116 [.ref ((lo + 122)), .int (J (h)), .int (J (u)), .int (J (w))] (mj (ml μ Q) I) = some (none, mj (ml μ (sA Q b g)) I) ∧ ∀ t z, 0 ≤ t → t < S 0 0 → 0 ≤ z → z < 36 → g (t * 36 + z) = Q b (t * 36 + z) + (if S 1 (h * 8 + t) ≠ 0 ∧ u + S 1 (h * 8 + t) = z ∧ apQ (abQ S L t z) w = true then Q a (h * 36 + u) else 0) := by
  obtain ⟨d, rfl⟩ : ∃ e, d = e + 1 := ⟨d - 1, by omega⟩
  obtain ⟨hC, hs, hS, hab18⟩ := hR
  have vv := hV.1
  have i0 : I s 0 = S 0 0 := by rw [vS_0 hS]
  obtain ⟨N, eN⟩ : ∃ N, N = Q a (h * 36 + u) := ⟨_, rfl⟩
  rw [← eN]
  obtain ⟨⟨g, q7, q8⟩, e, hg⟩ := loop (fun k (t : (Int → Int) × Option Value × Option Value) => ex PG E lo d 116 16 [some (.ref ((lo + 122))), some (.int (J (h))), some (.int (J (u))), some (.int (J (w))), some (.long (K N)), none, some (.int (J (k))), t.2.1, t.2.2] [] (mj (ml μ (sA Q b t.1)) I)) (fun k st => ∀ t z, 0 ≤ t → t < S 0 0 → 0 ≤ z → z < 36 → st.1 (t * 36 + z) = Q b (t * 36 + z) + (if t < k ∧ S 1 (h * 8 + t) ≠ 0 ∧ u + S 1 (h * 8 + t) = z ∧ apQ (abQ S L t z) w = true then N else 0)) (a := 0) (n := S 0 0) (fun k st f1 f2 hg => by
    obtain ⟨g, q7, q8⟩ := st
    dsimp only at hg ⊢
    have hW : ShW (ml μ (sA Q b g)) (lo + 122) := hC.W122
    have hSh : ShS (ml μ (sA Q b g)) s := hS.1
    have hs' : rr (ml μ (sA Q b g)) (lo + 122) 3 = some s := hs
    have h9' : rr (ml μ (sA Q b g)) (lo + 122) 9 = some b := h9
    have kb' : rk (ml μ (sA Q b g)) b = some (.inr (3, 288)) := kb
    have hS' : AtS (ml μ (sA Q b g)) I s S := hS
    have hdu := du_sp (E := E) (lo := lo) (d := d) (x := h) (y := k) (by omega) hS' (by omega) (by omega)
    have vd := hV.2.1 (h * 8 + k) (by omega) (by omega)
    have keep : ¬ (S 1 (h * 8 + k) ≠ 0 ∧ u + S 1 (h * 8 + k) ≤ 35 ∧ apQ (abQ S L k (u + S 1 (h * 8 + k))) w = true) → ∀ t z, 0 ≤ t → t < S 0 0 → 0 ≤ z → z < 36 → g (t * 36 + z) = Q b (t * 36 + z) + (if t < k + 1 ∧ S 1 (h * 8 + t) ≠ 0 ∧ u + S 1 (h * 8 + t) = z ∧ apQ (abQ S L t z) w = true then N else 0) := fun hne t z y1 y2 y3 y4 => by
      rw [hg t z y1 y2 y3 y4]
      by_cases c : t < k ∧ S 1 (h * 8 + t) ≠ 0 ∧ u + S 1 (h * 8 + t) = z ∧ apQ (abQ S L t z) w = true
      · rw [if_pos c, if_pos ⟨by omega, c.2⟩]
      · rw [if_neg c, if_neg]
        intro q
        by_cases ct : t = k
        · subst ct
          obtain ⟨_, q2, q3, q4⟩ := q
          exact hne ⟨q2, by omega, by rw [q3]; exact q4⟩
        · exact c ⟨by omega, q.2⟩
    by_cases c1 : S 1 (h * 8 + k) = 0
    · refine ⟨(g, some (.int (J 0)), q8), ?_, keep (fun q => q.1 c1)⟩
      dsimp only
      rw [b116_16]
      simp (disch := omega) only [b116_28, b116_38, b116_90, gO_W hW, gR_W2 hW, gR_W4 hW, gR_W5 hW, gR_W6 hW, gR_W7 hW, gR_W10 hW, gR_W11 hW, gR_W12 hW, al_W1 hW, al_W15 hW, al_W16 hW, al_W17 hW, al_W18 hW, al_W21 hW, al_W22 hW, al_W23 hW, rd_W1 hW, rd_W15 hW, rd_W16 hW, rd_W17 hW, rd_W18 hW, rd_W21 hW, rd_W22 hW, rd_W23 hW, gR_k hs', gO_S hSh, gR_S2 hSh, gR_S4 hSh, gR_S5 hSh, gR_S6 hSh, gR_S7 hSh, gR_S8 hSh, gR_S9 hSh, gR_S10 hSh, gR_S11 hSh, gR_S12 hSh, gR_S14 hSh, gR_S15 hSh, al_S1 hSh, al_S2 hSh, al_S3 hSh, al_S4 hSh, al_S5 hSh, al_S6 hSh, al_S7 hSh, al_S8 hSh, al_S9 hSh, al_S10 hSh, al_S11 hSh, al_S12 hSh, rd_S1 hSh, rd_S2 hSh, rd_S3 hSh, rd_S4 hSh, rd_S5 hSh, rd_S6 hSh, rd_S7 hSh, rd_S8 hSh, rd_S9 hSh, rd_S10 hSh, rd_S11 hSh, rd_S12 hSh, i0, hdu, c1, Jl0, Jl1, Jl2, Jl3, Jl4, Jl5, Jl6, Jl7, Jl8, Jl9, Jl10, Jl11, Jl12, Jl13, Jl14, Jl15, Jl16, Jl17, Jl18, Jl19, Jl20, Jl22, Jl24, Jl28, Jl30, Jl31, Jl32, Jl35, Jl36, Jl37, Jl38, Jl39, Jl40, Jl48, Jl57, Jl59, Jl60, Jl61, Jl63, Jl64, Jl68, Jl69, Jl96, Jl97, Jl98, Jl99, Jl100, Jl122, Jl149, Jl150, Jl165, Jl255, Jl511, Jl512, Jl600, Jl610, Jl940, Jl968, Jl999, Jl1134, Jl1152, Jl2048, Jl4608, Jl9999, Jl99999, Jl100000, Jl147456, Jl12345, Jl1103515245, Jl100000000, Jlm1, Jlm2, J_add, J_sub, J_mul, J_lt, J_le, J_eq, J_ite, J_cl, ri_j, wi_j, b2i_z, b2i_o, b2i_zo, Int.cast_ofNat_Int, Int.natCast_zero, Int.natCast_one, if_true, if_false, ite_self, Int.le_refl, J_bit, J_or, J_neg, J_oN, Int.reduceEq, Int.reduceLT, Int.reduceLE, Int.reduceNeg, Int.reduceAdd, Int.reduceSub, Int.reduceMul, Int.reduceToNat, J_shl, J_shr, V_ite, true_or, or_true, nz_j, J_div, J_rem, Option.bind_some, Option.toList_some, Option.toList_none, List.cons_append, List.nil_append, Jl21, Jl23, Jl25, Jl74, Jl83, Jl288, Jl324, Jl1800, Jlm8]
      repeat (first | rw [if_neg (by omega)] | rw [if_pos (by omega)])
    · by_cases c2 : u + S 1 (h * 8 + k) ≤ 35
      · have ab := hab18 k (u + S 1 (h * 8 + k)) f1 (by omega) (by omega) (by omega)
        rw [← Int.add_assoc] at ab
        have abb := abQ_b (S := S) (L := L) hV (h := k) (u := u + S 1 (h * 8 + k))
        have p9' := p2_le (k := S 0 3) (m := 9) (by omega)
        rw [show p2 9 = 512 from by decide] at p9'
        have snb := sn2_b (s := abQ S L k (u + S 1 (h * 8 + k))) (t := w) abb.1
        have hap := ap_sn (a := abQ S L k (u + S 1 (h * 8 + k))) (b := w) (by omega) hw.1
        by_cases c3 : apQ (abQ S L k (u + S 1 (h * 8 + k))) w = true
        · have z0 : sn2 (abQ S L k (u + S 1 (h * 8 + k))) w = 0 := by rw [hap]; exact c3
          have gi := hg k (u + S 1 (h * 8 + k)) f1 f2 (by omega) (by omega)
          rw [if_neg (by omega), Int.add_zero, ← Int.add_assoc] at gi
          have hwr := fun X (r : Option rRs) => wrA_k (lo := lo) (μ := ml μ X) (x := k * 36 + u + S 1 (h * 8 + k)) (I := I) (r := r) (show rk (ml μ X) b = some (.inr (3, 288)) from kb) hlb (by omega)
          refine ⟨(u1 g (k * 36 + u + S 1 (h * 8 + k)) (Q b (k * 36 + u + S 1 (h * 8 + k)) + N), some (.int (J (S 1 (h * 8 + k)))), some (.int (J (k * 36 + u + S 1 (h * 8 + k))))), ?_, fun t z y1 y2 y3 y4 => ?_⟩
          · dsimp only
            rw [b116_16]
            simp (disch := omega) only [b116_28, b116_38, b116_45, b116_54, b116_78, b116_90, gO_W hW, gR_W2 hW, gR_W4 hW, gR_W5 hW, gR_W6 hW, gR_W7 hW, gR_W10 hW, gR_W11 hW, gR_W12 hW, al_W1 hW, al_W15 hW, al_W16 hW, al_W17 hW, al_W18 hW, al_W21 hW, al_W22 hW, al_W23 hW, rd_W1 hW, rd_W15 hW, rd_W16 hW, rd_W17 hW, rd_W18 hW, rd_W21 hW, rd_W22 hW, rd_W23 hW, gR_k hs', gR_k h9', rdA_k kb', gO_S hSh, gR_S2 hSh, gR_S4 hSh, gR_S5 hSh, gR_S6 hSh, gR_S7 hSh, gR_S8 hSh, gR_S9 hSh, gR_S10 hSh, gR_S11 hSh, gR_S12 hSh, gR_S14 hSh, gR_S15 hSh, al_S1 hSh, al_S2 hSh, al_S3 hSh, al_S4 hSh, al_S5 hSh, al_S6 hSh, al_S7 hSh, al_S8 hSh, al_S9 hSh, al_S10 hSh, al_S11 hSh, al_S12 hSh, rd_S1 hSh, rd_S2 hSh, rd_S3 hSh, rd_S4 hSh, rd_S5 hSh, rd_S6 hSh, rd_S7 hSh, rd_S8 hSh, rd_S9 hSh, rd_S10 hSh, rd_S11 hSh, rd_S12 hSh, i0, hdu, ab, J_and, z0, rl_ml, K_add, hwr, wl_ml, u3_sA, sA_s, sA_sA, gi, Jl0, Jl1, Jl2, Jl3, Jl4, Jl5, Jl6, Jl7, Jl8, Jl9, Jl10, Jl11, Jl12, Jl13, Jl14, Jl15, Jl16, Jl17, Jl18, Jl19, Jl20, Jl22, Jl24, Jl28, Jl30, Jl31, Jl32, Jl35, Jl36, Jl37, Jl38, Jl39, Jl40, Jl48, Jl57, Jl59, Jl60, Jl61, Jl63, Jl64, Jl68, Jl69, Jl96, Jl97, Jl98, Jl99, Jl100, Jl122, Jl149, Jl150, Jl165, Jl255, Jl511, Jl512, Jl600, Jl610, Jl940, Jl968, Jl999, Jl1134, Jl1152, Jl2048, Jl4608, Jl9999, Jl99999, Jl100000, Jl147456, Jl12345, Jl1103515245, Jl100000000, Jlm1, Jlm2, J_add, J_sub, J_mul, J_lt, J_le, J_eq, J_ite, J_cl, ri_j, wi_j, b2i_z, b2i_o, b2i_zo, Int.cast_ofNat_Int, Int.natCast_zero, Int.natCast_one, if_true, if_false, ite_self, Int.le_refl, J_bit, J_or, J_neg, J_oN, Int.reduceEq, Int.reduceLT, Int.reduceLE, Int.reduceNeg, Int.reduceAdd, Int.reduceSub, Int.reduceMul, Int.reduceToNat, J_shl, J_shr, V_ite, true_or, or_true, nz_j, J_div, J_rem, Option.bind_some, Option.toList_some, Option.toList_none, List.cons_append, List.nil_append, Jl21, Jl23, Jl25, Jl74, Jl83, Jl288, Jl324, Jl1800, Jlm8]
            repeat (first | rw [if_neg (by omega)] | rw [if_pos (by omega)])
          · dsimp only
            by_cases ct : t = k ∧ z = u + S 1 (h * 8 + k)
            · obtain ⟨rfl, rfl⟩ := ct
              rw [show t * 36 + (u + S 1 (h * 8 + t)) = t * 36 + u + S 1 (h * 8 + t) by omega, u1_s, if_pos ⟨by omega, c1, rfl, c3⟩]
            · rw [u1_n (by omega), hg t z y1 y2 y3 y4]
              by_cases c : t < k ∧ S 1 (h * 8 + t) ≠ 0 ∧ u + S 1 (h * 8 + t) = z ∧ apQ (abQ S L t z) w = true
              · rw [if_pos c, if_pos ⟨by omega, c.2⟩]
              · rw [if_neg c, if_neg]
                intro q
                by_cases ct2 : t = k
                · subst ct2
                  exact ct ⟨rfl, q.2.2.1.symm⟩
                · exact c ⟨by omega, q.2⟩
        · have z0 : ¬ sn2 (abQ S L k (u + S 1 (h * 8 + k))) w = 0 := fun z => c3 (by rw [← hap]; exact z)
          refine ⟨(g, some (.int (J (S 1 (h * 8 + k)))), some (.int (J (k * 36 + u + S 1 (h * 8 + k))))), ?_, keep (fun q => c3 q.2.2)⟩
          dsimp only
          rw [b116_16]
          simp (disch := omega) only [b116_28, b116_38, b116_45, b116_54, b116_90, gO_W hW, gR_W2 hW, gR_W4 hW, gR_W5 hW, gR_W6 hW, gR_W7 hW, gR_W10 hW, gR_W11 hW, gR_W12 hW, al_W1 hW, al_W15 hW, al_W16 hW, al_W17 hW, al_W18 hW, al_W21 hW, al_W22 hW, al_W23 hW, rd_W1 hW, rd_W15 hW, rd_W16 hW, rd_W17 hW, rd_W18 hW, rd_W21 hW, rd_W22 hW, rd_W23 hW, gR_k hs', gO_S hSh, gR_S2 hSh, gR_S4 hSh, gR_S5 hSh, gR_S6 hSh, gR_S7 hSh, gR_S8 hSh, gR_S9 hSh, gR_S10 hSh, gR_S11 hSh, gR_S12 hSh, gR_S14 hSh, gR_S15 hSh, al_S1 hSh, al_S2 hSh, al_S3 hSh, al_S4 hSh, al_S5 hSh, al_S6 hSh, al_S7 hSh, al_S8 hSh, al_S9 hSh, al_S10 hSh, al_S11 hSh, al_S12 hSh, rd_S1 hSh, rd_S2 hSh, rd_S3 hSh, rd_S4 hSh, rd_S5 hSh, rd_S6 hSh, rd_S7 hSh, rd_S8 hSh, rd_S9 hSh, rd_S10 hSh, rd_S11 hSh, rd_S12 hSh, i0, hdu, ab, J_and, Jl0, Jl1, Jl2, Jl3, Jl4, Jl5, Jl6, Jl7, Jl8, Jl9, Jl10, Jl11, Jl12, Jl13, Jl14, Jl15, Jl16, Jl17, Jl18, Jl19, Jl20, Jl22, Jl24, Jl28, Jl30, Jl31, Jl32, Jl35, Jl36, Jl37, Jl38, Jl39, Jl40, Jl48, Jl57, Jl59, Jl60, Jl61, Jl63, Jl64, Jl68, Jl69, Jl96, Jl97, Jl98, Jl99, Jl100, Jl122, Jl149, Jl150, Jl165, Jl255, Jl511, Jl512, Jl600, Jl610, Jl940, Jl968, Jl999, Jl1134, Jl1152, Jl2048, Jl4608, Jl9999, Jl99999, Jl100000, Jl147456, Jl12345, Jl1103515245, Jl100000000, Jlm1, Jlm2, J_add, J_sub, J_mul, J_lt, J_le, J_eq, J_ite, J_cl, ri_j, wi_j, b2i_z, b2i_o, b2i_zo, Int.cast_ofNat_Int, Int.natCast_zero, Int.natCast_one, if_true, if_false, ite_self, Int.le_refl, J_bit, J_or, J_neg, J_oN, Int.reduceEq, Int.reduceLT, Int.reduceLE, Int.reduceNeg, Int.reduceAdd, Int.reduceSub, Int.reduceMul, Int.reduceToNat, J_shl, J_shr, V_ite, true_or, or_true, nz_j, J_div, J_rem, Option.bind_some, Option.toList_some, Option.toList_none, List.cons_append, List.nil_append, Jl21, Jl23, Jl25, Jl74, Jl83, Jl288, Jl324, Jl1800, Jlm8]
          repeat (first | rw [if_neg (by omega)] | rw [if_pos (by omega)])
      · refine ⟨(g, some (.int (J (S 1 (h * 8 + k)))), q8), ?_, keep (fun q => c2 q.2.1)⟩
        dsimp only
        rw [b116_16]
        simp (disch := omega) only [b116_28, b116_38, b116_45, b116_90, gO_W hW, gR_W2 hW, gR_W4 hW, gR_W5 hW, gR_W6 hW, gR_W7 hW, gR_W10 hW, gR_W11 hW, gR_W12 hW, al_W1 hW, al_W15 hW, al_W16 hW, al_W17 hW, al_W18 hW, al_W21 hW, al_W22 hW, al_W23 hW, rd_W1 hW, rd_W15 hW, rd_W16 hW, rd_W17 hW, rd_W18 hW, rd_W21 hW, rd_W22 hW, rd_W23 hW, gR_k hs', gO_S hSh, gR_S2 hSh, gR_S4 hSh, gR_S5 hSh, gR_S6 hSh, gR_S7 hSh, gR_S8 hSh, gR_S9 hSh, gR_S10 hSh, gR_S11 hSh, gR_S12 hSh, gR_S14 hSh, gR_S15 hSh, al_S1 hSh, al_S2 hSh, al_S3 hSh, al_S4 hSh, al_S5 hSh, al_S6 hSh, al_S7 hSh, al_S8 hSh, al_S9 hSh, al_S10 hSh, al_S11 hSh, al_S12 hSh, rd_S1 hSh, rd_S2 hSh, rd_S3 hSh, rd_S4 hSh, rd_S5 hSh, rd_S6 hSh, rd_S7 hSh, rd_S8 hSh, rd_S9 hSh, rd_S10 hSh, rd_S11 hSh, rd_S12 hSh, i0, hdu, Jl0, Jl1, Jl2, Jl3, Jl4, Jl5, Jl6, Jl7, Jl8, Jl9, Jl10, Jl11, Jl12, Jl13, Jl14, Jl15, Jl16, Jl17, Jl18, Jl19, Jl20, Jl22, Jl24, Jl28, Jl30, Jl31, Jl32, Jl35, Jl36, Jl37, Jl38, Jl39, Jl40, Jl48, Jl57, Jl59, Jl60, Jl61, Jl63, Jl64, Jl68, Jl69, Jl96, Jl97, Jl98, Jl99, Jl100, Jl122, Jl149, Jl150, Jl165, Jl255, Jl511, Jl512, Jl600, Jl610, Jl940, Jl968, Jl999, Jl1134, Jl1152, Jl2048, Jl4608, Jl9999, Jl99999, Jl100000, Jl147456, Jl12345, Jl1103515245, Jl100000000, Jlm1, Jlm2, J_add, J_sub, J_mul, J_lt, J_le, J_eq, J_ite, J_cl, ri_j, wi_j, b2i_z, b2i_o, b2i_zo, Int.cast_ofNat_Int, Int.natCast_zero, Int.natCast_one, if_true, if_false, ite_self, Int.le_refl, J_bit, J_or, J_neg, J_oN, Int.reduceEq, Int.reduceLT, Int.reduceLE, Int.reduceNeg, Int.reduceAdd, Int.reduceSub, Int.reduceMul, Int.reduceToNat, J_shl, J_shr, V_ite, true_or, or_true, nz_j, J_div, J_rem, Option.bind_some, Option.toList_some, Option.toList_none, List.cons_append, List.nil_append, Jl21, Jl23, Jl25, Jl74, Jl83, Jl288, Jl324, Jl1800, Jlm8]
        repeat (first | rw [if_neg (by omega)] | rw [if_pos (by omega)])) (by omega) (Q b, none, none) (fun t z y1 y2 y3 y4 => by dsimp only; rw [if_neg (by omega), Int.add_zero])
  dsimp only at e hg
  rw [sA_id] at e
  refine ⟨g, ?_, fun t z y1 y2 y3 y4 => ?_⟩
  · have hW : ShW (ml μ Q) (lo + 122) := hC.W122
    have h8' : rr (ml μ Q) (lo + 122) 8 = some a := h8
    have ka' : rk (ml μ Q) a = some (.inr (3, 288)) := ka
    have hWg : ShW (ml μ (sA Q b g)) (lo + 122) := hC.W122
    have hShg : ShS (ml μ (sA Q b g)) s := hS.1
    have hsg : rr (ml μ (sA Q b g)) (lo + 122) 3 = some s := hs
    simp (disch := omega) only [b116_0, e116, gO_W hW, gR_W2 hW, gR_W4 hW, gR_W5 hW, gR_W6 hW, gR_W7 hW, gR_W10 hW, gR_W11 hW, gR_W12 hW, al_W1 hW, al_W15 hW, al_W16 hW, al_W17 hW, al_W18 hW, al_W21 hW, al_W22 hW, al_W23 hW, rd_W1 hW, rd_W15 hW, rd_W16 hW, rd_W17 hW, rd_W18 hW, rd_W21 hW, rd_W22 hW, rd_W23 hW, gR_k h8', rdA_k ka', rl_ml, eN.symm, Jl0, Jl1, Jl2, Jl3, Jl4, Jl5, Jl6, Jl7, Jl8, Jl9, Jl10, Jl11, Jl12, Jl13, Jl14, Jl15, Jl16, Jl17, Jl18, Jl19, Jl20, Jl22, Jl24, Jl28, Jl30, Jl31, Jl32, Jl35, Jl36, Jl37, Jl38, Jl39, Jl40, Jl48, Jl57, Jl59, Jl60, Jl61, Jl63, Jl64, Jl68, Jl69, Jl96, Jl97, Jl98, Jl99, Jl100, Jl122, Jl149, Jl150, Jl165, Jl255, Jl511, Jl512, Jl600, Jl610, Jl940, Jl968, Jl999, Jl1134, Jl1152, Jl2048, Jl4608, Jl9999, Jl99999, Jl100000, Jl147456, Jl12345, Jl1103515245, Jl100000000, Jlm1, Jlm2, J_add, J_sub, J_mul, J_lt, J_le, J_eq, J_ite, J_cl, ri_j, wi_j, b2i_z, b2i_o, b2i_zo, Int.cast_ofNat_Int, Int.natCast_zero, Int.natCast_one, if_true, if_false, ite_self, Int.le_refl, J_bit, J_or, J_neg, J_oN, Int.reduceEq, Int.reduceLT, Int.reduceLE, Int.reduceNeg, Int.reduceAdd, Int.reduceSub, Int.reduceMul, Int.reduceToNat, J_shl, J_shr, V_ite, true_or, or_true, nz_j, J_div, J_rem, Option.bind_some, Option.toList_some, Option.toList_none, List.cons_append, List.nil_append, Jl21, Jl23, Jl25, Jl74, Jl83, Jl288, Jl324, Jl1800, Jlm8]
    refine e.trans ?_
    rw [b116_16]
    simp (disch := omega) only [b116_96, gO_W hWg, gR_W2 hWg, gR_W4 hWg, gR_W5 hWg, gR_W6 hWg, gR_W7 hWg, gR_W10 hWg, gR_W11 hWg, gR_W12 hWg, al_W1 hWg, al_W15 hWg, al_W16 hWg, al_W17 hWg, al_W18 hWg, al_W21 hWg, al_W22 hWg, al_W23 hWg, rd_W1 hWg, rd_W15 hWg, rd_W16 hWg, rd_W17 hWg, rd_W18 hWg, rd_W21 hWg, rd_W22 hWg, rd_W23 hWg, gR_k hsg, gO_S hShg, gR_S2 hShg, gR_S4 hShg, gR_S5 hShg, gR_S6 hShg, gR_S7 hShg, gR_S8 hShg, gR_S9 hShg, gR_S10 hShg, gR_S11 hShg, gR_S12 hShg, gR_S14 hShg, gR_S15 hShg, al_S1 hShg, al_S2 hShg, al_S3 hShg, al_S4 hShg, al_S5 hShg, al_S6 hShg, al_S7 hShg, al_S8 hShg, al_S9 hShg, al_S10 hShg, al_S11 hShg, al_S12 hShg, rd_S1 hShg, rd_S2 hShg, rd_S3 hShg, rd_S4 hShg, rd_S5 hShg, rd_S6 hShg, rd_S7 hShg, rd_S8 hShg, rd_S9 hShg, rd_S10 hShg, rd_S11 hShg, rd_S12 hShg, i0, Jl0, Jl1, Jl2, Jl3, Jl4, Jl5, Jl6, Jl7, Jl8, Jl9, Jl10, Jl11, Jl12, Jl13, Jl14, Jl15, Jl16, Jl17, Jl18, Jl19, Jl20, Jl22, Jl24, Jl28, Jl30, Jl31, Jl32, Jl35, Jl36, Jl37, Jl38, Jl39, Jl40, Jl48, Jl57, Jl59, Jl60, Jl61, Jl63, Jl64, Jl68, Jl69, Jl96, Jl97, Jl98, Jl99, Jl100, Jl122, Jl149, Jl150, Jl165, Jl255, Jl511, Jl512, Jl600, Jl610, Jl940, Jl968, Jl999, Jl1134, Jl1152, Jl2048, Jl4608, Jl9999, Jl99999, Jl100000, Jl147456, Jl12345, Jl1103515245, Jl100000000, Jlm1, Jlm2, J_add, J_sub, J_mul, J_lt, J_le, J_eq, J_ite, J_cl, ri_j, wi_j, b2i_z, b2i_o, b2i_zo, Int.cast_ofNat_Int, Int.natCast_zero, Int.natCast_one, if_true, if_false, ite_self, Int.le_refl, J_bit, J_or, J_neg, J_oN, Int.reduceEq, Int.reduceLT, Int.reduceLE, Int.reduceNeg, Int.reduceAdd, Int.reduceSub, Int.reduceMul, Int.reduceToNat, J_shl, J_shr, V_ite, true_or, or_true, nz_j, J_div, J_rem, Option.bind_some, Option.toList_some, Option.toList_none, List.cons_append, List.nil_append, Jl21, Jl23, Jl25, Jl74, Jl83, Jl288, Jl324, Jl1800, Jlm8]
  · rw [hg t z y1 y2 y3 y4]
    by_cases c : S 1 (h * 8 + t) ≠ 0 ∧ u + S 1 (h * 8 + t) = z ∧ apQ (abQ S L t z) w = true
    · rw [if_pos ⟨y2, c⟩, if_pos c]
    · rw [if_neg (fun q => c q.2), if_neg c]
end WAYS
