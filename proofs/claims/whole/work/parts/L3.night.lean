/-! THE CLASS: a night is opened -/
def NO (μ : rM) (I : Nat → Int → Int) (lo s l t : Nat) (S L T : Nat → Int → Int) : Prop := NC μ I (lo + 84) s l t S L T ∧ DT S T (I (lo + 84 + 14)) ∧ (∀ k, 0 ≤ k → k < S 0 3 → I (lo + 84 + 15) k = siS S k) ∧ (∀ k, 0 ≤ k → k < S 0 3 → I (lo + 84 + 16) k = dueT S L T (rdN S (siS S) T) k)
theorem rr_opn {μ : rM} {n s l t a f : Nat} : rr (opn μ n s l t) a f = if a = n ∧ f = 2 then some t else if a = n ∧ f = 1 then some l else if a = n ∧ f = 0 then some s else rr μ a f := rfl
theorem rk_opn {μ : rM} {n s l t : Nat} : rk (opn μ n s l t) = rk μ := rfl
theorem rr_opn_n {μ : rM} {n s l t a f : Nat} (h : ¬ (a = n ∧ f < 3)) : rr (opn μ n s l t) a f = rr μ a f := by
  rw [rr_opn, if_neg (by omega), if_neg (by omega), if_neg (by omega)]
theorem dueT_si {S L T : Nat → Int → Int} {si si' : Int → Int} {k : Int} (hk : 0 ≤ k ∧ k < S 0 3) (h : ∀ j, 0 ≤ j → j < S 0 3 → si j = si' j) : dueT S L T (rdN S si T) k = dueT S L T (rdN S si' T) k := by
  unfold dueT
  rw [ctT_congr hk (fun j u g1 g2 _ _ => rdN_si (h j g1 g2))]
section CLASS
variable {E : (Nat → Value) × (Nat → Nat)} {lo d s l t : Nat} {μ : rM} {I S L T R : Nat → Int → Int} {x y z w k u n : Int} {b : Bool}
theorem ShS_opn (h : ShS μ s) (hn : s ≠ lo + 84) : ShS (opn μ (lo + 84) s l t) s := ⟨h.1, fun q hq => ⟨by rw [rr_opn_n (fun z => hn z.1)]; exact (h.2 q hq).1, (h.2 q hq).2⟩⟩
theorem ShL_opn (h : ShL μ l) (hn : l ≠ lo + 84) : ShL (opn μ (lo + 84) s l t) l := ⟨h.1, fun q hq => ⟨by rw [rr_opn_n (fun z => hn z.1)]; exact (h.2 q hq).1, (h.2 q hq).2⟩⟩
theorem ShT_opn (h : ShT μ t) (hn : t ≠ lo + 84) : ShT (opn μ (lo + 84) s l t) t := ⟨h.1, fun q hq => ⟨by rw [rr_opn_n (fun z => hn z.1)]; exact (h.2 q hq).1, (h.2 q hq).2⟩⟩
theorem lsN_f : ∀ q ∈ lsN, ¬ q.1 < 3 := by decide
theorem ShN_opn (h : ShN μ (lo + 84)) : ShN (opn μ (lo + 84) s l t) (lo + 84) := ⟨h.1, fun q hq => ⟨by rw [rr_opn_n (fun z => lsN_f q hq z.2)]; exact (h.2 q hq).1, (h.2 q hq).2⟩⟩
theorem FQ_opn : FQ lo μ I (opn μ (lo + 84) s l t) I := ⟨⟨rfl, rfl, rfl, fun a f h => rr_opn_n (fun z => h (Or.inl z)), fun h => by
  unfold WN at *
  rw [rr_opn_n (by omega), rr_opn_n (by omega)]
  exact h⟩, fun _ _ => rfl, id⟩
theorem opn_sp (hd : 5 ≤ d) (hC : CO μ lo) (hI : DV (I (lo + 84 + 14)) ∧ SiV (I (lo + 84 + 15))) (hS : AtS μ I s S) (hV : SV S) (hL : AtL μ I l L) (hLV : LV L) (hT : AtT μ I t T) (hTV : TV T) (hZ : TZ T) (hA : (s + 13 ≤ lo + 84 ∨ lo + 84 + 18 ≤ s) ∧ (l + 2 ≤ lo + 84 ∨ lo + 84 + 18 ≤ l) ∧ (t + 5 ≤ lo + 84 ∨ lo + 84 + 18 ≤ t)) : ∃ μ2 I2, cl E lo d 11 [.ref ((lo + 84)), .ref s, .ref l, .ref t] (mj μ I) = some (none, mj μ2 I2) ∧ NO μ2 I2 lo s l t S L T ∧ FQ lo μ I μ2 I2 := by
  have hN0 : NC (opn μ (lo + 84) s l t) I (lo + 84) s l t S L T := ⟨ShN_opn hC.N84, by rw [rr_opn, if_neg (by omega), if_neg (by omega), if_pos ⟨rfl, rfl⟩], by rw [rr_opn, if_neg (by omega), if_pos ⟨rfl, rfl⟩], by rw [rr_opn, if_pos ⟨rfl, rfl⟩], ⟨ShS_opn hS.1 (by omega), hS.2⟩, hV, ⟨ShL_opn hL.1 (by omega), hL.2⟩, hLV, ⟨ShT_opn hT.1 (by omega), hT.2⟩, hTV, hA, hI.1, hI.2⟩
  obtain ⟨g, hg⟩ := op_sp (E := E) (lo := lo) (d := d) hd hN0 (by omega)
  have v := hV.1
  refine ⟨_, _, hg, ⟨?_, ?_, ?_, ?_⟩, FQ.t FQ_opn ⟨⟨rfl, rfl, rfl, fun _ _ _ => rfl, id⟩, fun a ha => ?_, fun _ => ⟨?_, ?_⟩⟩⟩
  · exact NC_sA (NC_sA (NC_14 (NC_15 hN0 (siX_V hV hI.2)) (dpX_V hV hI.1 (Int.le_refl _))) (Or.inr rfl)) (Or.inl rfl)
  · rw [sA_n (by omega), sA_n (by omega), sA_s]
    exact dp_DT
  · intro k h1 h2
    rw [sA_n (by omega), sA_n (by omega), sA_n (by omega), sA_s]
    exact if_pos ⟨h1, h2⟩
  · intro k h1 h2
    rw [sA_s]
    unfold duX
    rw [if_pos ⟨h1, h2⟩, due_link hV hZ dp_DT (si_o hV) ⟨h1, h2⟩]
    exact dueT_si ⟨h1, h2⟩ (fun j g1 g2 => if_pos ⟨g1, g2⟩)
  · rw [sA_n (by omega), sA_n (by omega), sA_n (by omega), sA_n (by omega)]
  · rw [sA_n (by omega), sA_n (by omega), sA_s]
    exact dpX_V hV hI.1 (Int.le_refl _)
  · rw [sA_n (by omega), sA_n (by omega), sA_n (by omega), sA_s]
    exact siX_V hV hI.2
/-- readings of an opened night -/
theorem NO.rd (h : NO μ I lo s l t S L T) (hk : 0 ≤ k ∧ k < S 0 3) (hu : 0 ≤ u ∧ u < 36) : rdS S (I (lo + 84 + 14)) (I (lo + 84 + 15)) k u = rdN S (siS S) T k u := by
  obtain ⟨hN, hD, hI, _⟩ := h
  have hV := hN.2.2.2.2.2.1
  have ho : SIo S (I (lo + 84 + 15)) := fun j g1 g2 => by rw [hI j g1 g2]; exact siS_SIo hV j g1 g2
  rw [rd_link (a := 0) (b := 0) hV hD ho hk hu]
  exact rdN_si (hI k hk.1 hk.2)
/-- stop() -/
theorem stop_y (hd : 4 ≤ d) (hC : CO μ lo) (hT : TOK I lo) (hx : i32 x ∧ i32 z) (hy : (0 ≤ x ∧ x < I (lo + 1 + 2) 0) ∧ (0 ≤ z ∧ z < I (lo + 1 + 2) 2)) : cl E lo d 134 [.ref lo, .int (J (x)), .int (J (z))] (mj μ I) = some (some (.int (J (stQ (rws I (lo + 8 + 20 * x.toNat)) (rws I (lo + 23 + 20 * z.toNat)) 40))), mj μ (sB I (lo + 74) 5 (wlS (rws I (lo + 8 + 20 * x.toNat)) (rws I (lo + 23 + 20 * z.toNat)) (rws I (lo + 74)) 40))) := by
  obtain ⟨d, rfl⟩ : ∃ e, d = e + 1 := ⟨d - 1, by omega⟩
  obtain ⟨hO, f0, f1, f2, f3, f4, f5, f6, f7, f8, hD⟩ := CO.o hC
  have hc0 := hT.1 0 (by omega) (by omega)
  have hc2 := hT.1 2 (by omega) (by omega)
  have h0 := has_sp (E := E) (lo := lo) (d := d) (t := lo + 1) (I := I) (s := 0) (by omega) hD (by omega) hx.1 hc0
  have h2 := has_sp (E := E) (lo := lo) (d := d) (t := lo + 1) (I := I) (s := 2) (by omega) hD (by omega) hx.2 hc2
  rw [decide_eq_true hy.1] at h0
  rw [decide_eq_true hy.2] at h2
  have hx' := hx
  unfold i32 at hx'
  have hV := (hT.2.1 x hy.1.1 hy.1.2).1
  have hRV := hT.2.2.2.1 z hy.2.1 hy.2.2
  have gS := hC.pS (x := x) (by omega)
  have gR := hC.pR (x := z) (by omega)
  have hA := rws_S (I := I) (hC.Sx (x := x) (by omega))
  have hB := rws_R (I := I) (hC.Rx (x := z) (by omega))
  have hTr := hC.T74
  have hw := walk_sp (E := E) (lo := lo) (d := d) (I := I) (T := rws I (lo + 74)) (m := 40) (by omega) hTr (by omega) hA hV hB hRV (by omega) (by omega) (by omega)
  have e0 : sB I (lo + 74) 5 (rws I (lo + 74)) = I := sB_id
  rw [e0] at hw
  rw [← wl_st (T := rws I (lo + 74)) hV hRV (by omega)]
  simp (disch := omega) only [b134_0, b134_9, b134_12, b134_21, b134_26, b134_53, e134, gO_k hO, gR_k f0, gR_k f1, gR_k f2, gR_k f3, gR_k f4, gR_k f5, gR_k f6, gR_k f7, gR_k f8, gO_D hD, gR_D0 hD, gR_D4 hD, gR_D5 hD, gR_D6 hD, gR_D7 hD, gR_D8 hD, al_D1 hD, al_D2 hD, al_D3 hD, al_D4 hD, al_D5 hD, al_D6 hD, rd_D1 hD, rd_D2 hD, rd_D3 hD, rd_D4 hD, rd_D5 hD, rd_D6 hD, h0, h2, b2i_t, gR_k gS, gR_k gR, gO_T hTr, gR_T3 hTr, gR_T4 hTr, gR_T5 hTr, gR_T6 hTr, al_T1 hTr, al_T2 hTr, al_T3 hTr, al_T4 hTr, rd_T1 hTr, rd_T2 hTr, rd_T3 hTr, rd_T4 hTr, hw, sB_0, Jl0, Jl1, Jl2, Jl3, Jl4, Jl5, Jl6, Jl7, Jl8, Jl9, Jl10, Jl11, Jl12, Jl13, Jl14, Jl15, Jl16, Jl17, Jl18, Jl19, Jl20, Jl22, Jl24, Jl28, Jl30, Jl31, Jl32, Jl35, Jl36, Jl37, Jl38, Jl39, Jl40, Jl48, Jl57, Jl59, Jl60, Jl61, Jl63, Jl64, Jl68, Jl69, Jl96, Jl97, Jl98, Jl99, Jl100, Jl122, Jl149, Jl150, Jl165, Jl255, Jl511, Jl512, Jl600, Jl610, Jl940, Jl968, Jl999, Jl1134, Jl1152, Jl2048, Jl4608, Jl9999, Jl99999, Jl100000, Jl147456, Jl12345, Jl1103515245, Jl100000000, Jlm1, Jlm2, J_add, J_sub, J_mul, J_lt, J_le, J_eq, J_ite, J_cl, ri_j, wi_j, b2i_z, b2i_o, b2i_zo, Int.cast_ofNat_Int, Int.natCast_zero, Int.natCast_one, if_true, if_false, ite_self, Int.le_refl, J_bit, J_or, J_neg, J_oN, Int.reduceEq, Int.reduceLT, Int.reduceLE, Int.reduceNeg, Int.reduceAdd, Int.reduceSub, Int.reduceMul, Int.reduceToNat, J_shl, J_shr, V_ite, true_or, or_true, nz_j, J_div, J_rem, Option.bind_some, Option.toList_some, Option.toList_none, List.cons_append, List.nil_append, Jl21, Jl23, Jl25, Jl74, Jl83, Jl288, Jl324, Jl1800, Jlm8]
theorem stop_n (hd : 4 ≤ d) (hC : CO μ lo) (hT : TOK I lo) (hx : i32 x ∧ i32 z) (hy : ¬ ((0 ≤ x ∧ x < I (lo + 1 + 2) 0) ∧ (0 ≤ z ∧ z < I (lo + 1 + 2) 2))) : cl E lo d 134 [.ref lo, .int (J (x)), .int (J (z))] (mj μ I) = some (some (.int (J (-1))), mj μ I) := by
  obtain ⟨d, rfl⟩ : ∃ e, d = e + 1 := ⟨d - 1, by omega⟩
  obtain ⟨hO, f0, f1, f2, f3, f4, f5, f6, f7, f8, hD⟩ := CO.o hC
  have hc0 := hT.1 0 (by omega) (by omega)
  have hc2 := hT.1 2 (by omega) (by omega)
  have h0 := has_sp (E := E) (lo := lo) (d := d) (t := lo + 1) (I := I) (s := 0) (by omega) hD (by omega) hx.1 hc0
  have h2 := has_sp (E := E) (lo := lo) (d := d) (t := lo + 1) (I := I) (s := 2) (by omega) hD (by omega) hx.2 hc2
  by_cases c : 0 ≤ x ∧ x < I (lo + 1 + 2) 0
  · rw [decide_eq_true c] at h0
    rw [decide_eq_false (fun z => hy ⟨c, z⟩)] at h2
    simp (disch := omega) only [b134_0, b134_9, b134_12, b134_21, b134_24, e134, gO_k hO, gR_k f0, gR_k f1, gR_k f2, gR_k f3, gR_k f4, gR_k f5, gR_k f6, gR_k f7, gR_k f8, gO_D hD, gR_D0 hD, gR_D4 hD, gR_D5 hD, gR_D6 hD, gR_D7 hD, gR_D8 hD, al_D1 hD, al_D2 hD, al_D3 hD, al_D4 hD, al_D5 hD, al_D6 hD, rd_D1 hD, rd_D2 hD, rd_D3 hD, rd_D4 hD, rd_D5 hD, rd_D6 hD, h0, h2, b2i_t, b2i_f, Jl0, Jl1, Jl2, Jl3, Jl4, Jl5, Jl6, Jl7, Jl8, Jl9, Jl10, Jl11, Jl12, Jl13, Jl14, Jl15, Jl16, Jl17, Jl18, Jl19, Jl20, Jl22, Jl24, Jl28, Jl30, Jl31, Jl32, Jl35, Jl36, Jl37, Jl38, Jl39, Jl40, Jl48, Jl57, Jl59, Jl60, Jl61, Jl63, Jl64, Jl68, Jl69, Jl96, Jl97, Jl98, Jl99, Jl100, Jl122, Jl149, Jl150, Jl165, Jl255, Jl511, Jl512, Jl600, Jl610, Jl940, Jl968, Jl999, Jl1134, Jl1152, Jl2048, Jl4608, Jl9999, Jl99999, Jl100000, Jl147456, Jl12345, Jl1103515245, Jl100000000, Jlm1, Jlm2, J_add, J_sub, J_mul, J_lt, J_le, J_eq, J_ite, J_cl, ri_j, wi_j, b2i_z, b2i_o, b2i_zo, Int.cast_ofNat_Int, Int.natCast_zero, Int.natCast_one, if_true, if_false, ite_self, Int.le_refl, J_bit, J_or, J_neg, J_oN, Int.reduceEq, Int.reduceLT, Int.reduceLE, Int.reduceNeg, Int.reduceAdd, Int.reduceSub, Int.reduceMul, Int.reduceToNat, J_shl, J_shr, V_ite, true_or, or_true, nz_j, J_div, J_rem, Option.bind_some, Option.toList_some, Option.toList_none, List.cons_append, List.nil_append, Jl21, Jl23, Jl25, Jl74, Jl83, Jl288, Jl324, Jl1800, Jlm8]
  · rw [decide_eq_false c] at h0
    simp (disch := omega) only [b134_0, b134_9, b134_24, e134, gO_k hO, gR_k f0, gR_k f1, gR_k f2, gR_k f3, gR_k f4, gR_k f5, gR_k f6, gR_k f7, gR_k f8, gO_D hD, gR_D0 hD, gR_D4 hD, gR_D5 hD, gR_D6 hD, gR_D7 hD, gR_D8 hD, al_D1 hD, al_D2 hD, al_D3 hD, al_D4 hD, al_D5 hD, al_D6 hD, rd_D1 hD, rd_D2 hD, rd_D3 hD, rd_D4 hD, rd_D5 hD, rd_D6 hD, h0, b2i_f, Jl0, Jl1, Jl2, Jl3, Jl4, Jl5, Jl6, Jl7, Jl8, Jl9, Jl10, Jl11, Jl12, Jl13, Jl14, Jl15, Jl16, Jl17, Jl18, Jl19, Jl20, Jl22, Jl24, Jl28, Jl30, Jl31, Jl32, Jl35, Jl36, Jl37, Jl38, Jl39, Jl40, Jl48, Jl57, Jl59, Jl60, Jl61, Jl63, Jl64, Jl68, Jl69, Jl96, Jl97, Jl98, Jl99, Jl100, Jl122, Jl149, Jl150, Jl165, Jl255, Jl511, Jl512, Jl600, Jl610, Jl940, Jl968, Jl999, Jl1134, Jl1152, Jl2048, Jl4608, Jl9999, Jl99999, Jl100000, Jl147456, Jl12345, Jl1103515245, Jl100000000, Jlm1, Jlm2, J_add, J_sub, J_mul, J_lt, J_le, J_eq, J_ite, J_cl, ri_j, wi_j, b2i_z, b2i_o, b2i_zo, Int.cast_ofNat_Int, Int.natCast_zero, Int.natCast_one, if_true, if_false, ite_self, Int.le_refl, J_bit, J_or, J_neg, J_oN, Int.reduceEq, Int.reduceLT, Int.reduceLE, Int.reduceNeg, Int.reduceAdd, Int.reduceSub, Int.reduceMul, Int.reduceToNat, J_shl, J_shr, V_ite, true_or, or_true, nz_j, J_div, J_rem, Option.bind_some, Option.toList_some, Option.toList_none, List.cons_append, List.nil_append, Jl21, Jl23, Jl25, Jl74, Jl83, Jl288, Jl324, Jl1800, Jlm8]
theorem FQ_74 {W : Nat → Int → Int} : FQ lo μ I μ (sB I (lo + 74) 5 W) := FQ.i (fun a h => sB_n (by omega)) (sB_n (by omega)) (sB_n (by omega))
/-- street, law and round are there -/
def o3c (I : Nat → Int → Int) (lo : Nat) (x y z : Int) : Prop := (0 ≤ x ∧ x < I (lo + 1 + 2) 0) ∧ (0 ≤ y ∧ y < I (lo + 1 + 2) 1) ∧ (0 ≤ z ∧ z < I (lo + 1 + 2) 2)
theorem iop_y (hd : 6 ≤ d) (hC : CO μ lo) (hT : TOK I lo) (hI : DV (I (lo + 84 + 14)) ∧ SiV (I (lo + 84 + 15))) (hx : i32 x ∧ i32 y ∧ i32 z) (hy : o3c I lo x y z) : ∃ μ2 I2, cl E lo d 163 [.ref lo, .int (J (x)), .int (J (y)), .int (J (z))] (mj μ I) = some (some (.int (J 1)), mj μ2 I2) ∧ NO μ2 I2 lo (lo + 8 + 20 * x.toNat) (lo + 21 + 20 * y.toNat) (lo + 74) (rws I (lo + 8 + 20 * x.toNat)) (rws I (lo + 21 + 20 * y.toNat)) (wlS (rws I (lo + 8 + 20 * x.toNat)) (rws I (lo + 23 + 20 * z.toNat)) (rws I (lo + 74)) 40) ∧ FQ lo μ I μ2 I2 := by
  obtain ⟨d, rfl⟩ : ∃ e, d = e + 1 := ⟨d - 1, by omega⟩
  obtain ⟨hO, f0, f1, f2, f3, f4, f5, f6, f7, f8, hD⟩ := CO.o hC
  obtain ⟨y0, y1, y2⟩ := hy
  have hc0 := hT.1 0 (by omega) (by omega)
  have hc1 := hT.1 1 (by omega) (by omega)
  have hc2 := hT.1 2 (by omega) (by omega)
  have h1 := has_sp (E := E) (lo := lo) (d := d) (t := lo + 1) (I := I) (s := 1) (by omega) hD (by omega) hx.2.1 hc1
  rw [decide_eq_true y1] at h1
  have hst := stop_y (E := E) (d := d) (by omega) hC hT ⟨hx.1, hx.2.2⟩ ⟨y0, y2⟩
  have hV := (hT.2.1 x y0.1 y0.2).1
  have hLV := hT.2.2.1 y y1.1 y1.2
  have hRV := hT.2.2.2.1 z y2.1 y2.2
  have gS := hC.pS (x := x) (by omega)
  have gL := hC.pL (x := y) (by omega)
  have hA := rws_S (I := I) (hC.Sx (x := x) (by omega))
  have hB := rws_L (I := I) (hC.Lx (x := y) (by omega))
  have hTr := hC.T74
  have hNi := hC.N84
  have hx' := hx
  unfold i32 at hx'
  have hst0 := (st_min (S := rws I (lo + 8 + 20 * x.toNat)) (R := rws I (lo + 23 + 20 * z.toNat)) (x := 40) hRV (by omega)).1
  obtain ⟨w1, w2, _⟩ := wl_ok (S := rws I (lo + 8 + 20 * x.toNat)) (R := rws I (lo + 23 + 20 * z.toNat)) (T := rws I (lo + 74)) (x := 40) hV hRV (by omega)
  obtain ⟨st, est⟩ : ∃ v, v = stQ (rws I (lo + 8 + 20 * x.toNat)) (rws I (lo + 23 + 20 * z.toNat)) 40 := ⟨_, rfl⟩
  obtain ⟨W, eW⟩ : ∃ W, W = wlS (rws I (lo + 8 + 20 * x.toNat)) (rws I (lo + 23 + 20 * z.toNat)) (rws I (lo + 74)) 40 := ⟨_, rfl⟩
  obtain ⟨S, eS⟩ : ∃ S, S = rws I (lo + 8 + 20 * x.toNat) := ⟨_, rfl⟩
  obtain ⟨L, eL⟩ : ∃ L, L = rws I (lo + 21 + 20 * y.toNat) := ⟨_, rfl⟩
  rw [← est] at hst hst0
  rw [← eW] at hst w1 w2 ⊢
  rw [← eS] at hA hV ⊢
  rw [← eL] at hB hLV ⊢
  have hA' : AtS μ (sB I (lo + 74) 5 W) (lo + 8 + 20 * x.toNat) S := hA.fr (fun a q1 q2 => sB_n (by omega))
  have hB' : AtL μ (sB I (lo + 74) 5 W) (lo + 21 + 20 * y.toNat) L := hB.fr (fun a q1 q2 => sB_n (by omega))
  have hT' : AtT μ (sB I (lo + 74) 5 W) (lo + 74) W := ⟨hTr, fun f hf => sB_c hf⟩
  obtain ⟨μ2, I2, o1, o2, o3⟩ := opn_sp (E := E) (d := d) (I := sB I (lo + 74) 5 W) (by omega) hC (by rw [sB_n (by omega), sB_n (by omega)]; exact hI) hA' hV hB' hLV hT' w2 w1 (by omega)
  refine ⟨μ2, I2, ?_, o2, FQ.t FQ_74 o3⟩
  simp (disch := omega) only [b163_0, b163_9, b163_12, b163_18, b163_24, b163_53, e163, gO_k hO, gR_k f0, gR_k f1, gR_k f2, gR_k f3, gR_k f4, gR_k f5, gR_k f6, gR_k f7, gR_k f8, gO_D hD, gR_D0 hD, gR_D4 hD, gR_D5 hD, gR_D6 hD, gR_D7 hD, gR_D8 hD, al_D1 hD, al_D2 hD, al_D3 hD, al_D4 hD, al_D5 hD, al_D6 hD, rd_D1 hD, rd_D2 hD, rd_D3 hD, rd_D4 hD, rd_D5 hD, rd_D6 hD, h1, hst, b2i_t, gR_k gS, gR_k gL, gO_N hNi, gR_N3 hNi, gR_N4 hNi, gR_N5 hNi, gR_N6 hNi, al_N14 hNi, al_N15 hNi, al_N16 hNi, al_N17 hNi, rd_N14 hNi, rd_N15 hNi, rd_N16 hNi, rd_N17 hNi, o1, Jl0, Jl1, Jl2, Jl3, Jl4, Jl5, Jl6, Jl7, Jl8, Jl9, Jl10, Jl11, Jl12, Jl13, Jl14, Jl15, Jl16, Jl17, Jl18, Jl19, Jl20, Jl22, Jl24, Jl28, Jl30, Jl31, Jl32, Jl35, Jl36, Jl37, Jl38, Jl39, Jl40, Jl48, Jl57, Jl59, Jl60, Jl61, Jl63, Jl64, Jl68, Jl69, Jl96, Jl97, Jl98, Jl99, Jl100, Jl122, Jl149, Jl150, Jl165, Jl255, Jl511, Jl512, Jl600, Jl610, Jl940, Jl968, Jl999, Jl1134, Jl1152, Jl2048, Jl4608, Jl9999, Jl99999, Jl100000, Jl147456, Jl12345, Jl1103515245, Jl100000000, Jlm1, Jlm2, J_add, J_sub, J_mul, J_lt, J_le, J_eq, J_ite, J_cl, ri_j, wi_j, b2i_z, b2i_o, b2i_zo, Int.cast_ofNat_Int, Int.natCast_zero, Int.natCast_one, if_true, if_false, ite_self, Int.le_refl, J_bit, J_or, J_neg, J_oN, Int.reduceEq, Int.reduceLT, Int.reduceLE, Int.reduceNeg, Int.reduceAdd, Int.reduceSub, Int.reduceMul, Int.reduceToNat, J_shl, J_shr, V_ite, true_or, or_true, nz_j, J_div, J_rem, Option.bind_some, Option.toList_some, Option.toList_none, List.cons_append, List.nil_append, Jl21, Jl23, Jl25, Jl74, Jl83, Jl288, Jl324, Jl1800, Jlm8]
  repeat (first | rw [if_neg (by omega)] | rw [if_pos (by omega)])
theorem iop_n (hd : 6 ≤ d) (hC : CO μ lo) (hT : TOK I lo) (hx : i32 x ∧ i32 y ∧ i32 z) (hy : ¬ o3c I lo x y z) : ∃ I2, cl E lo d 163 [.ref lo, .int (J (x)), .int (J (y)), .int (J (z))] (mj μ I) = some (some (.int (J 0)), mj μ I2) ∧ FQ lo μ I μ I2 := by
  obtain ⟨d, rfl⟩ : ∃ e, d = e + 1 := ⟨d - 1, by omega⟩
  obtain ⟨hO, f0, f1, f2, f3, f4, f5, f6, f7, f8, hD⟩ := CO.o hC
  have hc1 := hT.1 1 (by omega) (by omega)
  have h1 := has_sp (E := E) (lo := lo) (d := d) (t := lo + 1) (I := I) (s := 1) (by omega) hD (by omega) hx.2.1 hc1
  by_cases c : 0 ≤ y ∧ y < I (lo + 1 + 2) 1
  · rw [decide_eq_true c] at h1
    have hst := stop_n (E := E) (d := d) (x := x) (z := z) (by omega) hC hT ⟨hx.1, hx.2.2⟩ (fun z => hy ⟨z.1, c, z.2⟩)
    refine ⟨I, ?_, FQ.r⟩
    simp (disch := omega) only [b163_0, b163_9, b163_12, b163_18, b163_22, e163, gO_k hO, gR_k f0, gR_k f1, gR_k f2, gR_k f3, gR_k f4, gR_k f5, gR_k f6, gR_k f7, gR_k f8, gO_D hD, gR_D0 hD, gR_D4 hD, gR_D5 hD, gR_D6 hD, gR_D7 hD, gR_D8 hD, al_D1 hD, al_D2 hD, al_D3 hD, al_D4 hD, al_D5 hD, al_D6 hD, rd_D1 hD, rd_D2 hD, rd_D3 hD, rd_D4 hD, rd_D5 hD, rd_D6 hD, h1, hst, b2i_t, Jl0, Jl1, Jl2, Jl3, Jl4, Jl5, Jl6, Jl7, Jl8, Jl9, Jl10, Jl11, Jl12, Jl13, Jl14, Jl15, Jl16, Jl17, Jl18, Jl19, Jl20, Jl22, Jl24, Jl28, Jl30, Jl31, Jl32, Jl35, Jl36, Jl37, Jl38, Jl39, Jl40, Jl48, Jl57, Jl59, Jl60, Jl61, Jl63, Jl64, Jl68, Jl69, Jl96, Jl97, Jl98, Jl99, Jl100, Jl122, Jl149, Jl150, Jl165, Jl255, Jl511, Jl512, Jl600, Jl610, Jl940, Jl968, Jl999, Jl1134, Jl1152, Jl2048, Jl4608, Jl9999, Jl99999, Jl100000, Jl147456, Jl12345, Jl1103515245, Jl100000000, Jlm1, Jlm2, J_add, J_sub, J_mul, J_lt, J_le, J_eq, J_ite, J_cl, ri_j, wi_j, b2i_z, b2i_o, b2i_zo, Int.cast_ofNat_Int, Int.natCast_zero, Int.natCast_one, if_true, if_false, ite_self, Int.le_refl, J_bit, J_or, J_neg, J_oN, Int.reduceEq, Int.reduceLT, Int.reduceLE, Int.reduceNeg, Int.reduceAdd, Int.reduceSub, Int.reduceMul, Int.reduceToNat, J_shl, J_shr, V_ite, true_or, or_true, nz_j, J_div, J_rem, Option.bind_some, Option.toList_some, Option.toList_none, List.cons_append, List.nil_append, Jl21, Jl23, Jl25, Jl74, Jl83, Jl288, Jl324, Jl1800, Jlm8]
  · rw [decide_eq_false c] at h1
    refine ⟨I, ?_, FQ.r⟩
    simp (disch := omega) only [b163_0, b163_9, b163_22, e163, gO_k hO, gR_k f0, gR_k f1, gR_k f2, gR_k f3, gR_k f4, gR_k f5, gR_k f6, gR_k f7, gR_k f8, gO_D hD, gR_D0 hD, gR_D4 hD, gR_D5 hD, gR_D6 hD, gR_D7 hD, gR_D8 hD, al_D1 hD, al_D2 hD, al_D3 hD, al_D4 hD, al_D5 hD, al_D6 hD, rd_D1 hD, rd_D2 hD, rd_D3 hD, rd_D4 hD, rd_D5 hD, rd_D6 hD, h1, b2i_f, Jl0, Jl1, Jl2, Jl3, Jl4, Jl5, Jl6, Jl7, Jl8, Jl9, Jl10, Jl11, Jl12, Jl13, Jl14, Jl15, Jl16, Jl17, Jl18, Jl19, Jl20, Jl22, Jl24, Jl28, Jl30, Jl31, Jl32, Jl35, Jl36, Jl37, Jl38, Jl39, Jl40, Jl48, Jl57, Jl59, Jl60, Jl61, Jl63, Jl64, Jl68, Jl69, Jl96, Jl97, Jl98, Jl99, Jl100, Jl122, Jl149, Jl150, Jl165, Jl255, Jl511, Jl512, Jl600, Jl610, Jl940, Jl968, Jl999, Jl1134, Jl1152, Jl2048, Jl4608, Jl9999, Jl99999, Jl100000, Jl147456, Jl12345, Jl1103515245, Jl100000000, Jlm1, Jlm2, J_add, J_sub, J_mul, J_lt, J_le, J_eq, J_ite, J_cl, ri_j, wi_j, b2i_z, b2i_o, b2i_zo, Int.cast_ofNat_Int, Int.natCast_zero, Int.natCast_one, if_true, if_false, ite_self, Int.le_refl, J_bit, J_or, J_neg, J_oN, Int.reduceEq, Int.reduceLT, Int.reduceLE, Int.reduceNeg, Int.reduceAdd, Int.reduceSub, Int.reduceMul, Int.reduceToNat, J_shl, J_shr, V_ite, true_or, or_true, nz_j, J_div, J_rem, Option.bind_some, Option.toList_some, Option.toList_none, List.cons_append, List.nil_append, Jl21, Jl23, Jl25, Jl74, Jl83, Jl288, Jl324, Jl1800, Jlm8]
/-- nobody is woken -/
def SIL (I : Nat → Int → Int) (lo : Nat) : Prop := I (lo + 79) 7 = 0 ∧ ∀ u, 0 ≤ u → u < 36 → I (lo + 79 + 1) u = -1 ∧ I (lo + 79 + 2) u = -1 ∧ I (lo + 79 + 3) u = 0
theorem ios_y (hd : 6 ≤ d) (hC : CO μ lo) (hT : TOK I lo) (hI : DV (I (lo + 84 + 14)) ∧ SiV (I (lo + 84 + 15))) (hQ : SIL I lo) (hx : i32 x ∧ i32 y) (hy : (0 ≤ x ∧ x < I (lo + 1 + 2) 0) ∧ (0 ≤ y ∧ y < I (lo + 1 + 2) 1)) : ∃ μ2 I2, cl E lo d 164 [.ref lo, .int (J (x)), .int (J (y))] (mj μ I) = some (some (.int (J 1)), mj μ2 I2) ∧ NO μ2 I2 lo (lo + 8 + 20 * x.toNat) (lo + 21 + 20 * y.toNat) (lo + 79) (rws I (lo + 8 + 20 * x.toNat)) (rws I (lo + 21 + 20 * y.toNat)) (rws I (lo + 79)) ∧ FQ lo μ I μ2 I2 := by
  obtain ⟨d, rfl⟩ : ∃ e, d = e + 1 := ⟨d - 1, by omega⟩
  obtain ⟨hO, f0, f1, f2, f3, f4, f5, f6, f7, f8, hD⟩ := CO.o hC
  obtain ⟨y0, y1⟩ := hy
  have hc0 := hT.1 0 (by omega) (by omega)
  have hc1 := hT.1 1 (by omega) (by omega)
  have h0 := has_sp (E := E) (lo := lo) (d := d) (t := lo + 1) (I := I) (s := 0) (by omega) hD (by omega) hx.1 hc0
  have h1 := has_sp (E := E) (lo := lo) (d := d) (t := lo + 1) (I := I) (s := 1) (by omega) hD (by omega) hx.2 hc1
  rw [decide_eq_true y0] at h0
  rw [decide_eq_true y1] at h1
  have hV := (hT.2.1 x y0.1 y0.2).1
  have hLV := hT.2.2.1 y y1.1 y1.2
  have gS := hC.pS (x := x) (by omega)
  have gL := hC.pL (x := y) (by omega)
  have hA := rws_S (I := I) (hC.Sx (x := x) (by omega))
  have hB := rws_L (I := I) (hC.Lx (x := y) (by omega))
  have hTr := rws_T (I := I) hC.T79
  have hNi := hC.N84
  have q0 : rws I (lo + 79) 0 7 = 0 := hQ.1
  have q1 : ∀ u, 0 ≤ u → u < 36 → rws I (lo + 79) 1 u = -1 ∧ rws I (lo + 79) 2 u = -1 ∧ rws I (lo + 79) 3 u = 0 := hQ.2
  have hTV : TV (rws I (lo + 79)) := ⟨by omega, fun u a b => by have := q1 u a b; omega, fun j a b => by omega⟩
  have hTZ : TZ (rws I (lo + 79)) := ⟨by omega, fun j a b => by omega, fun j j' a b c => by omega, fun v a b c => by have := q1 v a b; omega, fun v a b => by have := q1 v a b; omega⟩
  have hx' := hx
  unfold i32 at hx'
  obtain ⟨μ2, I2, o1, o2, o3⟩ := opn_sp (E := E) (d := d) (I := I) (by omega) hC hI hA hV hB hLV hTr hTV hTZ (by omega)
  refine ⟨μ2, I2, ?_, o2, o3⟩
  simp (disch := omega) only [b164_0, b164_9, b164_12, b164_21, b164_26, b164_55, e164, gO_k hO, gR_k f0, gR_k f1, gR_k f2, gR_k f3, gR_k f4, gR_k f5, gR_k f6, gR_k f7, gR_k f8, gO_D hD, gR_D0 hD, gR_D4 hD, gR_D5 hD, gR_D6 hD, gR_D7 hD, gR_D8 hD, al_D1 hD, al_D2 hD, al_D3 hD, al_D4 hD, al_D5 hD, al_D6 hD, rd_D1 hD, rd_D2 hD, rd_D3 hD, rd_D4 hD, rd_D5 hD, rd_D6 hD, h0, h1, b2i_t, gR_k gS, gR_k gL, gO_N hNi, gR_N3 hNi, gR_N4 hNi, gR_N5 hNi, gR_N6 hNi, al_N14 hNi, al_N15 hNi, al_N16 hNi, al_N17 hNi, rd_N14 hNi, rd_N15 hNi, rd_N16 hNi, rd_N17 hNi, o1, Jl0, Jl1, Jl2, Jl3, Jl4, Jl5, Jl6, Jl7, Jl8, Jl9, Jl10, Jl11, Jl12, Jl13, Jl14, Jl15, Jl16, Jl17, Jl18, Jl19, Jl20, Jl22, Jl24, Jl28, Jl30, Jl31, Jl32, Jl35, Jl36, Jl37, Jl38, Jl39, Jl40, Jl48, Jl57, Jl59, Jl60, Jl61, Jl63, Jl64, Jl68, Jl69, Jl96, Jl97, Jl98, Jl99, Jl100, Jl122, Jl149, Jl150, Jl165, Jl255, Jl511, Jl512, Jl600, Jl610, Jl940, Jl968, Jl999, Jl1134, Jl1152, Jl2048, Jl4608, Jl9999, Jl99999, Jl100000, Jl147456, Jl12345, Jl1103515245, Jl100000000, Jlm1, Jlm2, J_add, J_sub, J_mul, J_lt, J_le, J_eq, J_ite, J_cl, ri_j, wi_j, b2i_z, b2i_o, b2i_zo, Int.cast_ofNat_Int, Int.natCast_zero, Int.natCast_one, if_true, if_false, ite_self, Int.le_refl, J_bit, J_or, J_neg, J_oN, Int.reduceEq, Int.reduceLT, Int.reduceLE, Int.reduceNeg, Int.reduceAdd, Int.reduceSub, Int.reduceMul, Int.reduceToNat, J_shl, J_shr, V_ite, true_or, or_true, nz_j, J_div, J_rem, Option.bind_some, Option.toList_some, Option.toList_none, List.cons_append, List.nil_append, Jl21, Jl23, Jl25, Jl74, Jl83, Jl288, Jl324, Jl1800, Jlm8]
  repeat (first | rw [if_neg (by omega)] | rw [if_pos (by omega)])
theorem ios_n (hd : 6 ≤ d) (hC : CO μ lo) (hT : TOK I lo) (hx : i32 x ∧ i32 y) (hy : ¬ ((0 ≤ x ∧ x < I (lo + 1 + 2) 0) ∧ (0 ≤ y ∧ y < I (lo + 1 + 2) 1))) : cl E lo d 164 [.ref lo, .int (J (x)), .int (J (y))] (mj μ I) = some (some (.int (J 0)), mj μ I) := by
  obtain ⟨d, rfl⟩ : ∃ e, d = e + 1 := ⟨d - 1, by omega⟩
  obtain ⟨hO, f0, f1, f2, f3, f4, f5, f6, f7, f8, hD⟩ := CO.o hC
  have hc0 := hT.1 0 (by omega) (by omega)
  have hc1 := hT.1 1 (by omega) (by omega)
  have h0 := has_sp (E := E) (lo := lo) (d := d) (t := lo + 1) (I := I) (s := 0) (by omega) hD (by omega) hx.1 hc0
  have h1 := has_sp (E := E) (lo := lo) (d := d) (t := lo + 1) (I := I) (s := 1) (by omega) hD (by omega) hx.2 hc1
  by_cases c : 0 ≤ x ∧ x < I (lo + 1 + 2) 0
  · rw [decide_eq_true c] at h0
    rw [decide_eq_false (fun z => hy ⟨c, z⟩)] at h1
    simp (disch := omega) only [b164_0, b164_9, b164_12, b164_21, b164_24, e164, gO_k hO, gR_k f0, gR_k f1, gR_k f2, gR_k f3, gR_k f4, gR_k f5, gR_k f6, gR_k f7, gR_k f8, gO_D hD, gR_D0 hD, gR_D4 hD, gR_D5 hD, gR_D6 hD, gR_D7 hD, gR_D8 hD, al_D1 hD, al_D2 hD, al_D3 hD, al_D4 hD, al_D5 hD, al_D6 hD, rd_D1 hD, rd_D2 hD, rd_D3 hD, rd_D4 hD, rd_D5 hD, rd_D6 hD, h0, h1, b2i_t, b2i_f, Jl0, Jl1, Jl2, Jl3, Jl4, Jl5, Jl6, Jl7, Jl8, Jl9, Jl10, Jl11, Jl12, Jl13, Jl14, Jl15, Jl16, Jl17, Jl18, Jl19, Jl20, Jl22, Jl24, Jl28, Jl30, Jl31, Jl32, Jl35, Jl36, Jl37, Jl38, Jl39, Jl40, Jl48, Jl57, Jl59, Jl60, Jl61, Jl63, Jl64, Jl68, Jl69, Jl96, Jl97, Jl98, Jl99, Jl100, Jl122, Jl149, Jl150, Jl165, Jl255, Jl511, Jl512, Jl600, Jl610, Jl940, Jl968, Jl999, Jl1134, Jl1152, Jl2048, Jl4608, Jl9999, Jl99999, Jl100000, Jl147456, Jl12345, Jl1103515245, Jl100000000, Jlm1, Jlm2, J_add, J_sub, J_mul, J_lt, J_le, J_eq, J_ite, J_cl, ri_j, wi_j, b2i_z, b2i_o, b2i_zo, Int.cast_ofNat_Int, Int.natCast_zero, Int.natCast_one, if_true, if_false, ite_self, Int.le_refl, J_bit, J_or, J_neg, J_oN, Int.reduceEq, Int.reduceLT, Int.reduceLE, Int.reduceNeg, Int.reduceAdd, Int.reduceSub, Int.reduceMul, Int.reduceToNat, J_shl, J_shr, V_ite, true_or, or_true, nz_j, J_div, J_rem, Option.bind_some, Option.toList_some, Option.toList_none, List.cons_append, List.nil_append, Jl21, Jl23, Jl25, Jl74, Jl83, Jl288, Jl324, Jl1800, Jlm8]
  · rw [decide_eq_false c] at h0
    simp (disch := omega) only [b164_0, b164_9, b164_24, e164, gO_k hO, gR_k f0, gR_k f1, gR_k f2, gR_k f3, gR_k f4, gR_k f5, gR_k f6, gR_k f7, gR_k f8, gO_D hD, gR_D0 hD, gR_D4 hD, gR_D5 hD, gR_D6 hD, gR_D7 hD, gR_D8 hD, al_D1 hD, al_D2 hD, al_D3 hD, al_D4 hD, al_D5 hD, al_D6 hD, rd_D1 hD, rd_D2 hD, rd_D3 hD, rd_D4 hD, rd_D5 hD, rd_D6 hD, h0, b2i_f, Jl0, Jl1, Jl2, Jl3, Jl4, Jl5, Jl6, Jl7, Jl8, Jl9, Jl10, Jl11, Jl12, Jl13, Jl14, Jl15, Jl16, Jl17, Jl18, Jl19, Jl20, Jl22, Jl24, Jl28, Jl30, Jl31, Jl32, Jl35, Jl36, Jl37, Jl38, Jl39, Jl40, Jl48, Jl57, Jl59, Jl60, Jl61, Jl63, Jl64, Jl68, Jl69, Jl96, Jl97, Jl98, Jl99, Jl100, Jl122, Jl149, Jl150, Jl165, Jl255, Jl511, Jl512, Jl600, Jl610, Jl940, Jl968, Jl999, Jl1134, Jl1152, Jl2048, Jl4608, Jl9999, Jl99999, Jl100000, Jl147456, Jl12345, Jl1103515245, Jl100000000, Jlm1, Jlm2, J_add, J_sub, J_mul, J_lt, J_le, J_eq, J_ite, J_cl, ri_j, wi_j, b2i_z, b2i_o, b2i_zo, Int.cast_ofNat_Int, Int.natCast_zero, Int.natCast_one, if_true, if_false, ite_self, Int.le_refl, J_bit, J_or, J_neg, J_oN, Int.reduceEq, Int.reduceLT, Int.reduceLE, Int.reduceNeg, Int.reduceAdd, Int.reduceSub, Int.reduceMul, Int.reduceToNat, J_shl, J_shr, V_ite, true_or, or_true, nz_j, J_div, J_rem, Option.bind_some, Option.toList_some, Option.toList_none, List.cons_append, List.nil_append, Jl21, Jl23, Jl25, Jl74, Jl83, Jl288, Jl324, Jl1800, Jlm8]
/-- readings, nobody being woken -/
theorem lw_sil (h : ∀ u, 0 ≤ u → u < 36 → T 1 u = -1) (hu : -1 ≤ u ∧ u < 36) : lwS S T k u = -1 := by
  unfold lwS
  refine fo_ind (fun _ x => x = -1) _ _ (by omega) rfl (fun i x a b e => ?_)
  have : wkS S T k i = false := by
    unfold wkS
    exact decide_eq_false (fun z => z.1 (h i a (by omega)))
  rw [this]
  exact e
theorem rdN_sil {si : Int → Int} (h : ∀ u, 0 ≤ u → u < 36 → T 1 u = -1) (hu : 0 ≤ u ∧ u < 36) : rdN S si T k u = rdN S si tST k u := by
  unfold rdN rdT
  have e : (fun j => lwS S T j u) = fun j => lwS S tST j u := by
    funext j
    rw [lw_sil h (by omega), lw_still (by omega)]
  rw [e]
theorem NO.rds (hQ : SIL I lo) {I2 : Nat → Int → Int} (h : NO μ I2 lo s l t S L (rws I (lo + 79))) (hk : 0 ≤ k ∧ k < S 0 3) (hu : 0 ≤ u ∧ u < 36) : rdS S (I2 (lo + 84 + 14)) (I2 (lo + 84 + 15)) k u = rdN S (siS S) tST k u := by
  rw [h.rd hk hu]
  exact rdN_sil (fun v a b => (hQ.2 v a b).1) hu
end CLASS
