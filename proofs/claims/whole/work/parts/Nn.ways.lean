/-! THE CLASS: ways are counted -/
theorem lsW_8 : ∀ q ∈ lsW, ¬ q.1 = 8 := by decide
section WAYS
variable {E : (Nat → Value) × (Nat → Nat)} {lo d a b s : Nat} {μ : rM} {I Q S L : Nat → Int → Int} {x y v h u k w n i : Int}
/-- what one house and unit brings -/
def brQ (S L : Nat → Int → Int) (w i t z h u : Int) : Int := if S 1 (h * 8 + t) ≠ 0 ∧ u + S 1 (h * 8 + t) = z ∧ apQ (abQ S L t z) w = true then wA S L w i h u else 0
theorem br_s (hV : SV S) (hi : 0 ≤ i) {t z : Int} : sm (fun h => sm (fun u => brQ S L w i t z h u) 36) (S 0 0) = wA S L w (i + 1) t z := by
  have v := hV.1
  rw [wA_s hV hi]
  unfold brQ
  cases ha : apQ (abQ S L t z) w with
  | true =>
    rw [if_pos rfl]
    simp only [and_true]
  | false =>
    rw [if_neg (by decide)]
    simp only [Bool.false_eq_true, and_false, if_false]
    exact sm_z _ (by omega) (fun h _ _ => sm_z _ (by omega) (fun u _ _ => rfl))
/-- one more door -/
theorem st_sp1 {q4 q5 : Option Value} (hd : 3 ≤ d) (hR : WR μ I lo s S L) (hV : SV S) (h8 : rr μ (lo + 122) 8 = some a) (h9 : rr μ (lo + 122) 9 = some b) (ka : rk μ a = some (.inr (3, 288))) (kb : rk μ b = some (.inr (3, 288))) (hab : a ≠ b) (hlb : lo ≤ b) (hi : 0 ≤ i ∧ i < n ∧ n ≤ 7) (hw : 0 ≤ w ∧ w < 512) (hQ : ∀ h u, 0 ≤ h → h < S 0 0 → 0 ≤ u → u < 36 → Q a (h * 36 + u) = wA S L w i h u) : ∃ g q, ex PG E lo d 115 28 [some (.ref ((lo + 122))), some (.int (J (w))), some (.int (J (n))), some (.int (J (i))), q4, q5] [] (mj (ml μ Q) I) = ex PG E lo d 115 28 [some (.ref ((lo + 122))), some (.int (J (w))), some (.int (J (n))), some (.int (J ((i + 1)))), some (.ref a), q] [] (mj (ml (wr (wr μ (lo + 122) 8 (some b)) (lo + 122) 9 (some a)) (sA Q b g)) I) ∧ ∀ t z, 0 ≤ t → t < S 0 0 → 0 ≤ z → z < 36 → g (t * 36 + z) = wA S L w (i + 1) t z := by
  have vv := hV.1
  have hC := hR.1
  have hS := hR.2.2.1
  have hs := hR.2.1
  have i0 : I s 0 = S 0 0 := by rw [vS_0 hS]
  have hfl := flL_sp (E := E) (lo := lo) (d := d) (Q := Q) (I := I) (v := 0) (by omega) kb hlb (by omega)
  have hWq : ∀ X, ShW (ml μ X) (lo + 122) := fun _ => hC.W122
  have wz : ∀ h u, 0 ≤ h → h < S 0 0 → 0 ≤ u → u < i → wA S L w i h u = 0 := fun h u q1 q2 q3 q4 => by
    have := wA_z (S := S) (L := L) (s := w) hV i.toNat h u q1 q2 q3 (by omega)
    rwa [show ((i.toNat : Nat) : Int) = i by omega] at this
  obtain ⟨⟨g, q5'⟩, e, hg⟩ := loop (fun h (st : (Int → Int) × Option Value) => ex PG E lo d 115 44 [some (.ref ((lo + 122))), some (.int (J (w))), some (.int (J (n))), some (.int (J (i))), some (.int (J (h))), st.2] [] (mj (ml μ (sA Q b st.1)) I)) (fun h st => ∀ t z, 0 ≤ t → t < S 0 0 → 0 ≤ z → z < 36 → st.1 (t * 36 + z) = sm (fun h => sm (fun u => brQ S L w i t z h u) 36) h) (a := 0) (n := S 0 0) (fun h st f1 f2 hg => by
    obtain ⟨g, q5'⟩ := st
    dsimp only at hg ⊢
    obtain ⟨g2, e2, hg2⟩ := loop (fun u (g : Int → Int) => ex PG E lo d 115 59 [some (.ref ((lo + 122))), some (.int (J (w))), some (.int (J (n))), some (.int (J (i))), some (.int (J (h))), some (.int (J (u)))] [] (mj (ml μ (sA Q b g)) I)) (fun u g => ∀ t z, 0 ≤ t → t < S 0 0 → 0 ≤ z → z < 36 → g (t * 36 + z) = sm (fun h => sm (fun u => brQ S L w i t z h u) 36) h + sm (fun u => brQ S L w i t z h u) u) (a := i) (n := 35) (fun u g g1 g2 hg => by
      have hW := hWq (sA Q b g)
      have h8' : rr (ml μ (sA Q b g)) (lo + 122) 8 = some a := h8
      have ka' : rk (ml μ (sA Q b g)) a = some (.inr (3, 288)) := ka
      have qa : sA Q b g a (h * 36 + u) = wA S L w i h u := by rw [sA_n hab]; exact hQ h u f1 f2 (by omega) (by omega)
      have wb := wA_b (S := S) (L := L) (s := w) (h := h) (u := u) (n := i) hV (by omega)
      have hce := K_cmpe (a := wA S L w i h u) (b := 0) (by omega)
      by_cases c0 : wA S L w i h u = 0
      · refine ⟨g, ?_, fun t z y1 y2 y3 y4 => ?_⟩
        · rw [b115_59]
          simp (disch := omega) only [b115_66, b115_93, gO_W hW, gR_W2 hW, gR_W4 hW, gR_W5 hW, gR_W6 hW, gR_W7 hW, gR_W10 hW, gR_W11 hW, gR_W12 hW, al_W1 hW, al_W15 hW, al_W16 hW, al_W17 hW, al_W18 hW, al_W21 hW, al_W22 hW, al_W23 hW, rd_W1 hW, rd_W15 hW, rd_W16 hW, rd_W17 hW, rd_W18 hW, rd_W21 hW, rd_W22 hW, rd_W23 hW, gR_k h8', rdA_k ka', rl_ml, qa, Kl0, hce, c0, Jl0, Jl1, Jl2, Jl3, Jl4, Jl5, Jl6, Jl7, Jl8, Jl9, Jl10, Jl11, Jl12, Jl13, Jl14, Jl15, Jl16, Jl17, Jl18, Jl19, Jl20, Jl22, Jl24, Jl28, Jl30, Jl31, Jl32, Jl35, Jl36, Jl37, Jl38, Jl39, Jl40, Jl48, Jl57, Jl59, Jl60, Jl61, Jl63, Jl64, Jl68, Jl69, Jl96, Jl97, Jl98, Jl99, Jl100, Jl122, Jl149, Jl150, Jl165, Jl255, Jl511, Jl512, Jl600, Jl610, Jl940, Jl968, Jl999, Jl1134, Jl1152, Jl2048, Jl4608, Jl9999, Jl99999, Jl100000, Jl147456, Jl12345, Jl1103515245, Jl100000000, Jlm1, Jlm2, J_add, J_sub, J_mul, J_lt, J_le, J_eq, J_ite, J_cl, ri_j, wi_j, b2i_z, b2i_o, b2i_zo, Int.cast_ofNat_Int, Int.natCast_zero, Int.natCast_one, if_true, if_false, ite_self, Int.le_refl, J_bit, J_or, J_neg, J_oN, Int.reduceEq, Int.reduceLT, Int.reduceLE, Int.reduceNeg, Int.reduceAdd, Int.reduceSub, Int.reduceMul, Int.reduceToNat, J_shl, J_shr, V_ite, true_or, or_true, nz_j, J_div, J_rem, Option.bind_some, Option.toList_some, Option.toList_none, List.cons_append, List.nil_append, Jl21, Jl23, Jl25, Jl74, Jl83, Jl288, Jl324, Jl1800, Jlm8]
          repeat (first | rw [if_neg (by omega)] | rw [if_pos (by omega)])
          rw [if_pos (by decide)]
        · rw [hg t z y1 y2 y3 y4, sm_s _ (by omega)]
          have : brQ S L w i t z h u = 0 := by unfold brQ; rw [c0, ite_self]
          rw [this, Int.add_zero]
      · obtain ⟨g3, e3, hg3⟩ := go_sp (E := E) (lo := lo) (d := d) (Q := sA Q b g) (h := h) (u := u) (w := w) (by omega) hR hV h8 h9 ka kb hab hlb ⟨f1, f2⟩ (by omega) hw
        refine ⟨g3, ?_, fun t z y1 y2 y3 y4 => ?_⟩
        · rw [sA_sA] at e3
          rw [b115_59]
          simp (disch := omega) only [b115_66, b115_84, b115_93, gO_W hW, gR_W2 hW, gR_W4 hW, gR_W5 hW, gR_W6 hW, gR_W7 hW, gR_W10 hW, gR_W11 hW, gR_W12 hW, al_W1 hW, al_W15 hW, al_W16 hW, al_W17 hW, al_W18 hW, al_W21 hW, al_W22 hW, al_W23 hW, rd_W1 hW, rd_W15 hW, rd_W16 hW, rd_W17 hW, rd_W18 hW, rd_W21 hW, rd_W22 hW, rd_W23 hW, gR_k h8', rdA_k ka', rl_ml, qa, Kl0, hce, c0, e3, Jl0, Jl1, Jl2, Jl3, Jl4, Jl5, Jl6, Jl7, Jl8, Jl9, Jl10, Jl11, Jl12, Jl13, Jl14, Jl15, Jl16, Jl17, Jl18, Jl19, Jl20, Jl22, Jl24, Jl28, Jl30, Jl31, Jl32, Jl35, Jl36, Jl37, Jl38, Jl39, Jl40, Jl48, Jl57, Jl59, Jl60, Jl61, Jl63, Jl64, Jl68, Jl69, Jl96, Jl97, Jl98, Jl99, Jl100, Jl122, Jl149, Jl150, Jl165, Jl255, Jl511, Jl512, Jl600, Jl610, Jl940, Jl968, Jl999, Jl1134, Jl1152, Jl2048, Jl4608, Jl9999, Jl99999, Jl100000, Jl147456, Jl12345, Jl1103515245, Jl100000000, Jlm1, Jlm2, J_add, J_sub, J_mul, J_lt, J_le, J_eq, J_ite, J_cl, ri_j, wi_j, b2i_z, b2i_o, b2i_zo, Int.cast_ofNat_Int, Int.natCast_zero, Int.natCast_one, if_true, if_false, ite_self, Int.le_refl, J_bit, J_or, J_neg, J_oN, Int.reduceEq, Int.reduceLT, Int.reduceLE, Int.reduceNeg, Int.reduceAdd, Int.reduceSub, Int.reduceMul, Int.reduceToNat, J_shl, J_shr, V_ite, true_or, or_true, nz_j, J_div, J_rem, Option.bind_some, Option.toList_some, Option.toList_none, List.cons_append, List.nil_append, Jl21, Jl23, Jl25, Jl74, Jl83, Jl288, Jl324, Jl1800, Jlm8]
          repeat (first | rw [if_neg (by omega)] | rw [if_pos (by omega)])
        · rw [hg3 t z y1 y2 y3 y4, sA_s, hg t z y1 y2 y3 y4, sm_s _ (by omega), qa]
          unfold brQ
          omega) (by omega) g (fun t z y1 y2 y3 y4 => by
        rw [hg t z y1 y2 y3 y4]
        have z0 : sm (fun u => brQ S L w i t z h u) i = 0 := sm_z _ hi.1 (fun u y5 y6 => by unfold brQ; rw [wz h u f1 f2 y5 y6, ite_self])
        rw [z0, Int.add_zero])
    have hW := hWq (sA Q b g)
    have hs' : rr (ml μ (sA Q b g)) (lo + 122) 3 = some s := hs
    have hSh : ShS (ml μ (sA Q b g)) s := hS.1
    refine ⟨(g2, some (.int (J 35))), ?_, fun t z y1 y2 y3 y4 => ?_⟩
    · dsimp only
      rw [b115_44]
      simp (disch := omega) only [b115_56, gO_W hW, gR_W2 hW, gR_W4 hW, gR_W5 hW, gR_W6 hW, gR_W7 hW, gR_W10 hW, gR_W11 hW, gR_W12 hW, al_W1 hW, al_W15 hW, al_W16 hW, al_W17 hW, al_W18 hW, al_W21 hW, al_W22 hW, al_W23 hW, rd_W1 hW, rd_W15 hW, rd_W16 hW, rd_W17 hW, rd_W18 hW, rd_W21 hW, rd_W22 hW, rd_W23 hW, gR_k hs', gO_S hSh, gR_S2 hSh, gR_S4 hSh, gR_S5 hSh, gR_S6 hSh, gR_S7 hSh, gR_S8 hSh, gR_S9 hSh, gR_S10 hSh, gR_S11 hSh, gR_S12 hSh, gR_S14 hSh, gR_S15 hSh, al_S1 hSh, al_S2 hSh, al_S3 hSh, al_S4 hSh, al_S5 hSh, al_S6 hSh, al_S7 hSh, al_S8 hSh, al_S9 hSh, al_S10 hSh, al_S11 hSh, al_S12 hSh, rd_S1 hSh, rd_S2 hSh, rd_S3 hSh, rd_S4 hSh, rd_S5 hSh, rd_S6 hSh, rd_S7 hSh, rd_S8 hSh, rd_S9 hSh, rd_S10 hSh, rd_S11 hSh, rd_S12 hSh, i0, Jl0, Jl1, Jl2, Jl3, Jl4, Jl5, Jl6, Jl7, Jl8, Jl9, Jl10, Jl11, Jl12, Jl13, Jl14, Jl15, Jl16, Jl17, Jl18, Jl19, Jl20, Jl22, Jl24, Jl28, Jl30, Jl31, Jl32, Jl35, Jl36, Jl37, Jl38, Jl39, Jl40, Jl48, Jl57, Jl59, Jl60, Jl61, Jl63, Jl64, Jl68, Jl69, Jl96, Jl97, Jl98, Jl99, Jl100, Jl122, Jl149, Jl150, Jl165, Jl255, Jl511, Jl512, Jl600, Jl610, Jl940, Jl968, Jl999, Jl1134, Jl1152, Jl2048, Jl4608, Jl9999, Jl99999, Jl100000, Jl147456, Jl12345, Jl1103515245, Jl100000000, Jlm1, Jlm2, J_add, J_sub, J_mul, J_lt, J_le, J_eq, J_ite, J_cl, ri_j, wi_j, b2i_z, b2i_o, b2i_zo, Int.cast_ofNat_Int, Int.natCast_zero, Int.natCast_one, if_true, if_false, ite_self, Int.le_refl, J_bit, J_or, J_neg, J_oN, Int.reduceEq, Int.reduceLT, Int.reduceLE, Int.reduceNeg, Int.reduceAdd, Int.reduceSub, Int.reduceMul, Int.reduceToNat, J_shl, J_shr, V_ite, true_or, or_true, nz_j, J_div, J_rem, Option.bind_some, Option.toList_some, Option.toList_none, List.cons_append, List.nil_append, Jl21, Jl23, Jl25, Jl74, Jl83, Jl288, Jl324, Jl1800, Jlm8]
      rw [if_neg (by omega), e2, b115_59]
      simp (disch := omega) only [b115_99, Jl0, Jl1, Jl2, Jl3, Jl4, Jl5, Jl6, Jl7, Jl8, Jl9, Jl10, Jl11, Jl12, Jl13, Jl14, Jl15, Jl16, Jl17, Jl18, Jl19, Jl20, Jl22, Jl24, Jl28, Jl30, Jl31, Jl32, Jl35, Jl36, Jl37, Jl38, Jl39, Jl40, Jl48, Jl57, Jl59, Jl60, Jl61, Jl63, Jl64, Jl68, Jl69, Jl96, Jl97, Jl98, Jl99, Jl100, Jl122, Jl149, Jl150, Jl165, Jl255, Jl511, Jl512, Jl600, Jl610, Jl940, Jl968, Jl999, Jl1134, Jl1152, Jl2048, Jl4608, Jl9999, Jl99999, Jl100000, Jl147456, Jl12345, Jl1103515245, Jl100000000, Jlm1, Jlm2, J_add, J_sub, J_mul, J_lt, J_le, J_eq, J_ite, J_cl, ri_j, wi_j, b2i_z, b2i_o, b2i_zo, Int.cast_ofNat_Int, Int.natCast_zero, Int.natCast_one, if_true, if_false, ite_self, Int.le_refl, J_bit, J_or, J_neg, J_oN, Int.reduceEq, Int.reduceLT, Int.reduceLE, Int.reduceNeg, Int.reduceAdd, Int.reduceSub, Int.reduceMul, Int.reduceToNat, J_shl, J_shr, V_ite, true_or, or_true, nz_j, J_div, J_rem, Option.bind_some, Option.toList_some, Option.toList_none, List.cons_append, List.nil_append, Jl21, Jl23, Jl25, Jl74, Jl83, Jl288, Jl324, Jl1800, Jlm8]
    · dsimp only
      rw [hg2 t z y1 y2 y3 y4, sm_s _ f1]
      have e35 := sm_s (fun u => brQ S L w i t z h u) (n := 35) (by omega)
      rw [show (35 : Int) + 1 = 36 by omega] at e35
      have z35 : brQ S L w i t z h 35 = 0 := by
        have vd := hV.2.1 (h * 8 + t) (by omega) (by omega)
        unfold brQ
        rw [if_neg (by omega)]
      rw [e35, z35, Int.add_zero]) (by omega) (flr (Q b) 0 ((288 : Nat) : Int) 0, q5) (fun t z y1 y2 y3 y4 => by
      dsimp only
      unfold flr
      rw [if_pos (by omega)]
      rfl)
  dsimp only at e hg
  refine ⟨g, q5', ?_, fun t z y1 y2 y3 y4 => by rw [hg t z y1 y2 y3 y4, br_s hV hi.1]⟩
  have hW := hWq Q
  have h9' : rr (ml μ Q) (lo + 122) 9 = some b := h9
  have hWg := hWq (sA Q b g)
  have hs' : rr (ml μ (sA Q b g)) (lo + 122) 3 = some s := hs
  have hSh : ShS (ml μ (sA Q b g)) s := hS.1
  have h8g : rr (ml μ (sA Q b g)) (lo + 122) 8 = some a := h8
  have h9g : rr (ml μ (sA Q b g)) (lo + 122) 9 = some b := h9
  have hlW : lo ≤ lo + 122 := by omega
  have s1 : ex PG E lo d 115 28 [some (.ref ((lo + 122))), some (.int (J (w))), some (.int (J (n))), some (.int (J (i))), q4, q5] [] (mj (ml μ Q) I) = ex PG E lo d 115 44 [some (.ref ((lo + 122))), some (.int (J (w))), some (.int (J (n))), some (.int (J (i))), some (.int (J (0))), q5] [] (mj (ml μ (sA Q b (flr (Q b) 0 ((288 : Nat) : Int) 0))) I) := by
    rw [b115_28]
    simp (disch := omega) only [b115_33, b115_41, gO_W hW, gR_W2 hW, gR_W4 hW, gR_W5 hW, gR_W6 hW, gR_W7 hW, gR_W10 hW, gR_W11 hW, gR_W12 hW, al_W1 hW, al_W15 hW, al_W16 hW, al_W17 hW, al_W18 hW, al_W21 hW, al_W22 hW, al_W23 hW, rd_W1 hW, rd_W15 hW, rd_W16 hW, rd_W17 hW, rd_W18 hW, rd_W21 hW, rd_W22 hW, rd_W23 hW, gR_k h9', Kl0, hfl, Jl0, Jl1, Jl2, Jl3, Jl4, Jl5, Jl6, Jl7, Jl8, Jl9, Jl10, Jl11, Jl12, Jl13, Jl14, Jl15, Jl16, Jl17, Jl18, Jl19, Jl20, Jl22, Jl24, Jl28, Jl30, Jl31, Jl32, Jl35, Jl36, Jl37, Jl38, Jl39, Jl40, Jl48, Jl57, Jl59, Jl60, Jl61, Jl63, Jl64, Jl68, Jl69, Jl96, Jl97, Jl98, Jl99, Jl100, Jl122, Jl149, Jl150, Jl165, Jl255, Jl511, Jl512, Jl600, Jl610, Jl940, Jl968, Jl999, Jl1134, Jl1152, Jl2048, Jl4608, Jl9999, Jl99999, Jl100000, Jl147456, Jl12345, Jl1103515245, Jl100000000, Jlm1, Jlm2, J_add, J_sub, J_mul, J_lt, J_le, J_eq, J_ite, J_cl, ri_j, wi_j, b2i_z, b2i_o, b2i_zo, Int.cast_ofNat_Int, Int.natCast_zero, Int.natCast_one, if_true, if_false, ite_self, Int.le_refl, J_bit, J_or, J_neg, J_oN, Int.reduceEq, Int.reduceLT, Int.reduceLE, Int.reduceNeg, Int.reduceAdd, Int.reduceSub, Int.reduceMul, Int.reduceToNat, J_shl, J_shr, V_ite, true_or, or_true, nz_j, J_div, J_rem, Option.bind_some, Option.toList_some, Option.toList_none, List.cons_append, List.nil_append, Jl21, Jl23, Jl25, Jl74, Jl83, Jl288, Jl324, Jl1800, Jlm8]
    repeat (first | rw [if_neg (by omega)] | rw [if_pos (by omega)])
  rw [s1, e, b115_44]
  have hWw : ShW (wr (ml μ (sA Q b g)) (lo + 122) 8 (some b)) (lo + 122) := ⟨hWg.1, fun q hq => ⟨by rw [rr_wr, if_neg (fun z => lsW_8 q hq z.2)]; exact (hWg.2 q hq).1, (hWg.2 q hq).2⟩⟩
  simp (disch := omega) only [b115_105, b115_119, b115_125, gO_W hWg, gR_W2 hWg, gR_W4 hWg, gR_W5 hWg, gR_W6 hWg, gR_W7 hWg, gR_W10 hWg, gR_W11 hWg, gR_W12 hWg, al_W1 hWg, al_W15 hWg, al_W16 hWg, al_W17 hWg, al_W18 hWg, al_W21 hWg, al_W22 hWg, al_W23 hWg, rd_W1 hWg, rd_W15 hWg, rd_W16 hWg, rd_W17 hWg, rd_W18 hWg, rd_W21 hWg, rd_W22 hWg, rd_W23 hWg, gP_W hWg hlW, wr_W1 hWg hlW, wr_W15 hWg hlW, wr_W16 hWg hlW, wr_W17 hWg hlW, wr_W18 hWg hlW, wr_W21 hWg hlW, wr_W22 hWg hlW, wr_W23 hWg hlW, gR_k hs', gR_k h8g, gR_k h9g, gO_S hSh, gR_S2 hSh, gR_S4 hSh, gR_S5 hSh, gR_S6 hSh, gR_S7 hSh, gR_S8 hSh, gR_S9 hSh, gR_S10 hSh, gR_S11 hSh, gR_S12 hSh, gR_S14 hSh, gR_S15 hSh, al_S1 hSh, al_S2 hSh, al_S3 hSh, al_S4 hSh, al_S5 hSh, al_S6 hSh, al_S7 hSh, al_S8 hSh, al_S9 hSh, al_S10 hSh, al_S11 hSh, al_S12 hSh, rd_S1 hSh, rd_S2 hSh, rd_S3 hSh, rd_S4 hSh, rd_S5 hSh, rd_S6 hSh, rd_S7 hSh, rd_S8 hSh, rd_S9 hSh, rd_S10 hSh, rd_S11 hSh, rd_S12 hSh, i0, wr_j, gO_W hWw, gR_W2 hWw, gR_W4 hWw, gR_W5 hWw, gR_W6 hWw, gR_W7 hWw, gR_W10 hWw, gR_W11 hWw, gR_W12 hWw, al_W1 hWw, al_W15 hWw, al_W16 hWw, al_W17 hWw, al_W18 hWw, al_W21 hWw, al_W22 hWw, al_W23 hWw, rd_W1 hWw, rd_W15 hWw, rd_W16 hWw, rd_W17 hWw, rd_W18 hWw, rd_W21 hWw, rd_W22 hWw, rd_W23 hWw, gP_W hWw hlW, wr_W1 hWw hlW, wr_W15 hWw hlW, wr_W16 hWw hlW, wr_W17 hWw hlW, wr_W18 hWw hlW, wr_W21 hWw hlW, wr_W22 hWw hlW, wr_W23 hWw hlW, Jl0, Jl1, Jl2, Jl3, Jl4, Jl5, Jl6, Jl7, Jl8, Jl9, Jl10, Jl11, Jl12, Jl13, Jl14, Jl15, Jl16, Jl17, Jl18, Jl19, Jl20, Jl22, Jl24, Jl28, Jl30, Jl31, Jl32, Jl35, Jl36, Jl37, Jl38, Jl39, Jl40, Jl48, Jl57, Jl59, Jl60, Jl61, Jl63, Jl64, Jl68, Jl69, Jl96, Jl97, Jl98, Jl99, Jl100, Jl122, Jl149, Jl150, Jl165, Jl255, Jl511, Jl512, Jl600, Jl610, Jl940, Jl968, Jl999, Jl1134, Jl1152, Jl2048, Jl4608, Jl9999, Jl99999, Jl100000, Jl147456, Jl12345, Jl1103515245, Jl100000000, Jlm1, Jlm2, J_add, J_sub, J_mul, J_lt, J_le, J_eq, J_ite, J_cl, ri_j, wi_j, b2i_z, b2i_o, b2i_zo, Int.cast_ofNat_Int, Int.natCast_zero, Int.natCast_one, if_true, if_false, ite_self, Int.le_refl, J_bit, J_or, J_neg, J_oN, Int.reduceEq, Int.reduceLT, Int.reduceLE, Int.reduceNeg, Int.reduceAdd, Int.reduceSub, Int.reduceMul, Int.reduceToNat, J_shl, J_shr, V_ite, true_or, or_true, nz_j, J_div, J_rem, Option.bind_some, Option.toList_some, Option.toList_none, List.cons_append, List.nil_append, Jl21, Jl23, Jl25, Jl74, Jl83, Jl288, Jl324, Jl1800, Jlm8]
  rfl
end WAYS
