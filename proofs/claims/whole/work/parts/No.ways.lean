/-! THE CLASS: ways of so many doors that meet none of a set -/
section WAYS
variable {E : (Nat → Value) × (Nat → Nat)} {lo d a b s : Nat} {μ μ' : rM} {I Q Q' S L : Nat → Int → Int} {x y v h u k w n i : Int}
/-- only the two tables may have changed places -/
def SWP (lo : Nat) (μ μ' : rM) (Q Q' : Nat → Int → Int) : Prop := (rk μ' = rk μ ∧ rz μ' = rz μ ∧ ru μ' = ru μ ∧ ∀ a f, ¬ (a = lo + 122 ∧ (f = 8 ∨ f = 9)) → rr μ' a f = rr μ a f) ∧ WN μ' lo ∧ ∀ c, c ≠ lo + 141 → c ≠ lo + 142 → Q' c = Q c
theorem SWP_R (hR : WR μ I lo s S L) (hsl : s ≠ lo + 122) (h : SWP lo μ μ' Q Q') : WR μ' I lo s S L := by
  obtain ⟨⟨k1, k2, k3, k4⟩, k5, _⟩ := h
  obtain ⟨r1, r2, r3, r4⟩ := hR
  refine ⟨CO_fr r1 k1 (fun a f q => k4 a f (fun z => q (Or.inr ⟨z.1, Or.inr z.2⟩))) k5, by rw [k4 _ _ (by omega)]; exact r2, ⟨ShS_m r3.1 k1 (fun f => k4 s f (by omega)), r3.2⟩, r4⟩
theorem cw_sp (hd : 4 ≤ d) (hR : WR μ I lo s S L) (hV : SV S) (hsl : s ≠ lo + 122) (hn : 0 ≤ n ∧ n ≤ 7) (hw : 0 ≤ w ∧ w < 512) : ∃ μ' Q' a, cl E lo d 115 [.ref ((lo + 122)), .int (J (w)), .int (J (n))] (mj (ml μ Q) I) = some (none, mj (ml μ' Q') I) ∧ SWP lo μ μ' Q Q' ∧ rr μ' (lo + 122) 8 = some a ∧ (a = lo + 141 ∨ a = lo + 142) ∧ ∀ h u, 0 ≤ h → h < S 0 0 → 0 ≤ u → u < 36 → Q' a (h * 36 + u) = wA S L w n h u := by
  obtain ⟨d, rfl⟩ : ∃ e, d = e + 1 := ⟨d - 1, by omega⟩
  have vv := hV.1
  have hC := hR.1
  have k1 : rk μ (lo + 141) = some (.inr (3, 288)) := hC.1 (141, 1, 3, 288) (by decide +kernel)
  have k2 : rk μ (lo + 142) = some (.inr (3, 288)) := hC.1 (142, 1, 3, 288) (by decide +kernel)
  have kk : ∀ c, c = lo + 141 ∨ c = lo + 142 → rk μ c = some (.inr (3, 288)) := fun c q => by rcases q with q | q <;> rw [q] <;> assumption
  obtain ⟨a, b, h8, h9, ha, hb, hab⟩ : ∃ a b, rr μ (lo + 122) 8 = some a ∧ rr μ (lo + 122) 9 = some b ∧ (a = lo + 141 ∨ a = lo + 142) ∧ (b = lo + 141 ∨ b = lo + 142) ∧ a ≠ b := by
    rcases hC.2.2 with q | q
    · exact ⟨_, _, q.1, q.2, Or.inl rfl, Or.inr rfl, by omega⟩
    · exact ⟨_, _, q.1, q.2, Or.inr rfl, Or.inl rfl, by omega⟩
  have hfl := flL_sp (E := E) (lo := lo) (d := d) (Q := Q) (I := I) (v := 0) (by omega) (kk a ha) (by omega) (by omega)
  obtain ⟨Q1, eQ1⟩ : ∃ Q1, Q1 = sA Q a (flr (Q a) 0 288 0) := ⟨_, rfl⟩
  have ab0 := hR.2.2.2 0 0 (by omega) (by omega) (by omega) (by omega)
  rw [show (0 : Int) * 36 + 0 = 0 by omega] at ab0
  have abb := abQ_b (S := S) (L := L) hV (h := 0) (u := 0)
  have p9' := p2_le (k := S 0 3) (m := 9) (by omega)
  rw [show p2 9 = 512 from by decide] at p9'
  have hap := ap_sn (a := abQ S L 0 0) (b := w) (by omega) hw.1
  have snb := sn2_b (s := abQ S L 0 0) (t := w) abb.1
  have hW : ∀ X, ShW (ml μ X) (lo + 122) := fun _ => hC.W122
  have hW1 := hW Q1
  have hW0 := hW Q
  have h8' : ∀ X, rr (ml μ X) (lo + 122) 8 = some a := fun _ => h8
  have h8q := h8' Q
  have h81 := h8' Q1
  have ka1 : rk (ml μ Q1) a = some (.inr (3, 288)) := kk a ha
  have hla : lo ≤ a := by omega
  have q1v : ∀ j, 0 ≤ j → j < 288 → Q1 a j = 0 := fun j z1 z2 => by rw [eQ1, sA_s]; unfold flr; rw [if_pos ⟨z1, z2⟩]
  have start : ∃ Q2, cl E lo (d + 1) 115 [.ref (lo + 122), .int (J w), .int (J n)] (mj (ml μ Q) I) = ex PG E lo d 115 28 [some (.ref ((lo + 122))), some (.int (J (w))), some (.int (J (n))), some (.int (J (0))), none, none] [] (mj (ml μ Q2) I) ∧ (∀ c, c ≠ a → Q2 c = Q c) ∧ ∀ h u, 0 ≤ h → h < S 0 0 → 0 ≤ u → u < 36 → Q2 a (h * 36 + u) = wA S L w 0 h u := by
    have s1 : cl E lo (d + 1) 115 [.ref (lo + 122), .int (J w), .int (J n)] (mj (ml μ Q) I) = ex PG E lo d 115 8 [some (.ref ((lo + 122))), some (.int (J (w))), some (.int (J (n))), none, none, none] [] (mj (ml μ Q1) I) := by
      rw [eQ1]
      simp (disch := omega) only [b115_0, e115, gO_W hW0, gR_W2 hW0, gR_W4 hW0, gR_W5 hW0, gR_W6 hW0, gR_W7 hW0, gR_W10 hW0, gR_W11 hW0, gR_W12 hW0, al_W1 hW0, al_W15 hW0, al_W16 hW0, al_W17 hW0, al_W18 hW0, al_W21 hW0, al_W22 hW0, al_W23 hW0, rd_W1 hW0, rd_W15 hW0, rd_W16 hW0, rd_W17 hW0, rd_W18 hW0, rd_W21 hW0, rd_W22 hW0, rd_W23 hW0, gR_k h8q, Kl0, hfl, Jl0, Jl1, Jl2, Jl3, Jl4, Jl5, Jl6, Jl7, Jl8, Jl9, Jl10, Jl11, Jl12, Jl13, Jl14, Jl15, Jl16, Jl17, Jl18, Jl19, Jl20, Jl22, Jl24, Jl28, Jl30, Jl31, Jl32, Jl35, Jl36, Jl37, Jl38, Jl39, Jl40, Jl48, Jl57, Jl59, Jl60, Jl61, Jl63, Jl64, Jl68, Jl69, Jl96, Jl97, Jl98, Jl99, Jl100, Jl122, Jl149, Jl150, Jl165, Jl255, Jl511, Jl512, Jl600, Jl610, Jl940, Jl968, Jl999, Jl1134, Jl1152, Jl2048, Jl4608, Jl9999, Jl99999, Jl100000, Jl147456, Jl12345, Jl1103515245, Jl100000000, Jlm1, Jlm2, J_add, J_sub, J_mul, J_lt, J_le, J_eq, J_ite, J_cl, ri_j, wi_j, b2i_z, b2i_o, b2i_zo, Int.cast_ofNat_Int, Int.natCast_zero, Int.natCast_one, if_true, if_false, ite_self, Int.le_refl, J_bit, J_or, J_neg, J_oN, Int.reduceEq, Int.reduceLT, Int.reduceLE, Int.reduceNeg, Int.reduceAdd, Int.reduceSub, Int.reduceMul, Int.reduceToNat, J_shl, J_shr, V_ite, true_or, or_true, nz_j, J_div, J_rem, Option.bind_some, Option.toList_some, Option.toList_none, List.cons_append, List.nil_append, Jl21, Jl23, Jl25, Jl74, Jl83, Jl288, Jl324, Jl1800, Jlm8]
    by_cases c : apQ (abQ S L 0 0) w = true
    · have z0 : sn2 (abQ S L 0 0) w = 0 := by rw [hap]; exact c
      refine ⟨u3 Q1 a 0 1, ?_, fun c' q => by rw [u3_c q, eQ1, sA_n q], fun h u z1 z2 z3 z4 => ?_⟩
      · rw [s1]
        simp (disch := omega) only [b115_8, b115_19, b115_26, gO_W hW1, gR_W2 hW1, gR_W4 hW1, gR_W5 hW1, gR_W6 hW1, gR_W7 hW1, gR_W10 hW1, gR_W11 hW1, gR_W12 hW1, al_W1 hW1, al_W15 hW1, al_W16 hW1, al_W17 hW1, al_W18 hW1, al_W21 hW1, al_W22 hW1, al_W23 hW1, rd_W1 hW1, rd_W15 hW1, rd_W16 hW1, rd_W17 hW1, rd_W18 hW1, rd_W21 hW1, rd_W22 hW1, rd_W23 hW1, gR_k h81, wrA_k ka1 hla, ab0, J_and, z0, Kl1, wl_ml, Jl0, Jl1, Jl2, Jl3, Jl4, Jl5, Jl6, Jl7, Jl8, Jl9, Jl10, Jl11, Jl12, Jl13, Jl14, Jl15, Jl16, Jl17, Jl18, Jl19, Jl20, Jl22, Jl24, Jl28, Jl30, Jl31, Jl32, Jl35, Jl36, Jl37, Jl38, Jl39, Jl40, Jl48, Jl57, Jl59, Jl60, Jl61, Jl63, Jl64, Jl68, Jl69, Jl96, Jl97, Jl98, Jl99, Jl100, Jl122, Jl149, Jl150, Jl165, Jl255, Jl511, Jl512, Jl600, Jl610, Jl940, Jl968, Jl999, Jl1134, Jl1152, Jl2048, Jl4608, Jl9999, Jl99999, Jl100000, Jl147456, Jl12345, Jl1103515245, Jl100000000, Jlm1, Jlm2, J_add, J_sub, J_mul, J_lt, J_le, J_eq, J_ite, J_cl, ri_j, wi_j, b2i_z, b2i_o, b2i_zo, Int.cast_ofNat_Int, Int.natCast_zero, Int.natCast_one, if_true, if_false, ite_self, Int.le_refl, J_bit, J_or, J_neg, J_oN, Int.reduceEq, Int.reduceLT, Int.reduceLE, Int.reduceNeg, Int.reduceAdd, Int.reduceSub, Int.reduceMul, Int.reduceToNat, J_shl, J_shr, V_ite, true_or, or_true, nz_j, J_div, J_rem, Option.bind_some, Option.toList_some, Option.toList_none, List.cons_append, List.nil_append, Jl21, Jl23, Jl25, Jl74, Jl83, Jl288, Jl324, Jl1800, Jlm8]
      · rw [wA_0 hV]
        by_cases c0 : h = 0 ∧ u = 0
        · rw [c0.1, c0.2, if_pos ⟨rfl, rfl, c⟩, show (0 : Int) * 36 + 0 = 0 by omega, u3_s]
        · rw [if_neg (fun q => c0 ⟨q.1, q.2.1⟩), u3_n (by omega), q1v _ (by omega) (by omega)]
    · have z0 : ¬ sn2 (abQ S L 0 0) w = 0 := fun z => c (by rw [← hap]; exact z)
      refine ⟨Q1, ?_, fun c' q => by rw [eQ1, sA_n q], fun h u z1 z2 z3 z4 => ?_⟩
      · rw [s1]
        simp (disch := omega) only [b115_8, b115_26, gO_W hW1, gR_W2 hW1, gR_W4 hW1, gR_W5 hW1, gR_W6 hW1, gR_W7 hW1, gR_W10 hW1, gR_W11 hW1, gR_W12 hW1, al_W1 hW1, al_W15 hW1, al_W16 hW1, al_W17 hW1, al_W18 hW1, al_W21 hW1, al_W22 hW1, al_W23 hW1, rd_W1 hW1, rd_W15 hW1, rd_W16 hW1, rd_W17 hW1, rd_W18 hW1, rd_W21 hW1, rd_W22 hW1, rd_W23 hW1, ab0, J_and, z0, Jl0, Jl1, Jl2, Jl3, Jl4, Jl5, Jl6, Jl7, Jl8, Jl9, Jl10, Jl11, Jl12, Jl13, Jl14, Jl15, Jl16, Jl17, Jl18, Jl19, Jl20, Jl22, Jl24, Jl28, Jl30, Jl31, Jl32, Jl35, Jl36, Jl37, Jl38, Jl39, Jl40, Jl48, Jl57, Jl59, Jl60, Jl61, Jl63, Jl64, Jl68, Jl69, Jl96, Jl97, Jl98, Jl99, Jl100, Jl122, Jl149, Jl150, Jl165, Jl255, Jl511, Jl512, Jl600, Jl610, Jl940, Jl968, Jl999, Jl1134, Jl1152, Jl2048, Jl4608, Jl9999, Jl99999, Jl100000, Jl147456, Jl12345, Jl1103515245, Jl100000000, Jlm1, Jlm2, J_add, J_sub, J_mul, J_lt, J_le, J_eq, J_ite, J_cl, ri_j, wi_j, b2i_z, b2i_o, b2i_zo, Int.cast_ofNat_Int, Int.natCast_zero, Int.natCast_one, if_true, if_false, ite_self, Int.le_refl, J_bit, J_or, J_neg, J_oN, Int.reduceEq, Int.reduceLT, Int.reduceLE, Int.reduceNeg, Int.reduceAdd, Int.reduceSub, Int.reduceMul, Int.reduceToNat, J_shl, J_shr, V_ite, true_or, or_true, nz_j, J_div, J_rem, Option.bind_some, Option.toList_some, Option.toList_none, List.cons_append, List.nil_append, Jl21, Jl23, Jl25, Jl74, Jl83, Jl288, Jl324, Jl1800, Jlm8]
        repeat (first | rw [if_neg (by omega)] | rw [if_pos (by omega)])
      · rw [wA_0 hV, if_neg (fun q => c q.2.2), q1v _ (by omega) (by omega)]
  obtain ⟨Q2, e2, c2, v2⟩ := start
  rw [e2]
  obtain ⟨⟨μ3, Q3, q4, q5⟩, e3, sw, a3, b3, r8, r9, ha3, hb3, hab3, v3⟩ := loop (fun i (st : rM × (Nat → Int → Int) × Option Value × Option Value) => ex PG E lo d 115 28 [some (.ref ((lo + 122))), some (.int (J (w))), some (.int (J (n))), some (.int (J (i))), st.2.2.1, st.2.2.2] [] (mj (ml st.1 st.2.1) I)) (fun i st => SWP lo μ st.1 Q st.2.1 ∧ ∃ a b, rr st.1 (lo + 122) 8 = some a ∧ rr st.1 (lo + 122) 9 = some b ∧ (a = lo + 141 ∨ a = lo + 142) ∧ (b = lo + 141 ∨ b = lo + 142) ∧ a ≠ b ∧ ∀ h u, 0 ≤ h → h < S 0 0 → 0 ≤ u → u < 36 → st.2.1 a (h * 36 + u) = wA S L w i h u) (a := 0) (n := n) (fun i st f1 f2 hP => by
    obtain ⟨μ4, Q4, q4, q5⟩ := st
    dsimp only at hP ⊢
    obtain ⟨sw, a4, b4, r8, r9, ha4, hb4, hab4, v4⟩ := hP
    have hR4 := SWP_R hR hsl sw
    obtain ⟨g, q, e, hg⟩ := st_sp1 (E := E) (lo := lo) (d := d) (q4 := q4) (q5 := q5) (n := n) (w := w) (by omega) hR4 hV r8 r9 (by rw [sw.1.1]; exact kk a4 ha4) (by rw [sw.1.1]; exact kk b4 hb4) hab4 (by omega) ⟨f1, f2, hn.2⟩ hw v4
    refine ⟨(wr (wr μ4 (lo + 122) 8 (some b4)) (lo + 122) 9 (some a4), sA Q4 b4 g, some (.ref a4), q), e, ⟨⟨sw.1.1, sw.1.2.1, sw.1.2.2.1, fun c f z => ?_⟩, ?_, fun c z1 z2 => ?_⟩, b4, a4, ?_, ?_, hb4, ha4, hab4.symm, fun h u z1 z2 z3 z4 => ?_⟩
    · dsimp only
      rw [rr_wr, if_neg (by omega), rr_wr, if_neg (by omega)]
      exact sw.1.2.2.2 c f z
    · dsimp only
      unfold WN
      rw [rr_wr, if_neg (by omega), rr_wr, if_pos ⟨rfl, rfl⟩, rr_wr, if_pos ⟨rfl, rfl⟩]
      rcases ha4 with q | q <;> rcases hb4 with q' | q' <;> subst q <;> subst q'
      · exact absurd rfl hab4
      · exact Or.inr ⟨rfl, rfl⟩
      · exact Or.inl ⟨rfl, rfl⟩
      · exact absurd rfl hab4
    · dsimp only
      rw [sA_n (by omega)]
      exact sw.2.2 c z1 z2
    · dsimp only
      rw [rr_wr, if_neg (by omega), rr_wr, if_pos ⟨rfl, rfl⟩]
    · dsimp only
      rw [rr_wr, if_pos ⟨rfl, rfl⟩]
    · dsimp only
      rw [sA_s]
      exact hg h u z1 z2 z3 z4) hn.1 (μ, Q2, none, none) ⟨⟨⟨rfl, rfl, rfl, fun _ _ _ => rfl⟩, hC.2.2, fun c z1 z2 => c2 c (by omega)⟩, a, b, h8, h9, ha, hb, hab, v2⟩
  dsimp only at e3 sw r8 r9 v3
  refine ⟨μ3, Q3, a3, ?_, sw, r8, ha3, v3⟩
  rw [e3, b115_28]
  simp (disch := omega) only [b115_131, Jl0, Jl1, Jl2, Jl3, Jl4, Jl5, Jl6, Jl7, Jl8, Jl9, Jl10, Jl11, Jl12, Jl13, Jl14, Jl15, Jl16, Jl17, Jl18, Jl19, Jl20, Jl22, Jl24, Jl28, Jl30, Jl31, Jl32, Jl35, Jl36, Jl37, Jl38, Jl39, Jl40, Jl48, Jl57, Jl59, Jl60, Jl61, Jl63, Jl64, Jl68, Jl69, Jl96, Jl97, Jl98, Jl99, Jl100, Jl122, Jl149, Jl150, Jl165, Jl255, Jl511, Jl512, Jl600, Jl610, Jl940, Jl968, Jl999, Jl1134, Jl1152, Jl2048, Jl4608, Jl9999, Jl99999, Jl100000, Jl147456, Jl12345, Jl1103515245, Jl100000000, Jlm1, Jlm2, J_add, J_sub, J_mul, J_lt, J_le, J_eq, J_ite, J_cl, ri_j, wi_j, b2i_z, b2i_o, b2i_zo, Int.cast_ofNat_Int, Int.natCast_zero, Int.natCast_one, if_true, if_false, ite_self, Int.le_refl, J_bit, J_or, J_neg, J_oN, Int.reduceEq, Int.reduceLT, Int.reduceLE, Int.reduceNeg, Int.reduceAdd, Int.reduceSub, Int.reduceMul, Int.reduceToNat, J_shl, J_shr, V_ite, true_or, or_true, nz_j, J_div, J_rem, Option.bind_some, Option.toList_some, Option.toList_none, List.cons_append, List.nil_append, Jl21, Jl23, Jl25, Jl74, Jl83, Jl288, Jl324, Jl1800, Jlm8]
end WAYS
