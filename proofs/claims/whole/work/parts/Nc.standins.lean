/-! THE CLASS: stand-ins, the answer -/
section CLASS
variable {E : (Nat → Value) × (Nat → Nat)} {lo d s l t : Nat} {μ : rM} {I S L T R : Nat → Int → Int} {x y z w k u h a b n : Int} {bb : Bool}
theorem Cn_W : Cn S (S 0 3).toNat 0 = sdW S (p10 (rqM S (S 0 3).toNat)) := rfl
theorem rqM_n (hV : SV S) : rqM S (S 0 3).toNat = rhQ S (S 0 3) := by
  have v := hV.1
  have e := (rqM_h (S := S) (S 0 3).toNat (by omega)).1
  rw [show S 0 3 - (((S 0 3).toNat : Nat) : Int) = 0 by omega, show rhQ S 0 = 0 from rfl] at e
  omega
theorem fst_sp (hd : 15 ≤ d) (hC : CO μ lo) (hN : NO μ I lo s l t S L T) (hZ : TZ T) (hs : s + 13 ≤ lo + 84 ∧ l + 2 ≤ lo + 84 ∧ t + 5 ≤ lo + 84) (hr : rhQ S (S 0 3) ≤ 4) : ∃ I2, cl E lo d 42 [.ref ((lo + 102))] (mj μ I) = some (none, mj μ I2) ∧ FQ lo μ I μ I2 ∧ I2 (lo + 102) 5 = sdW S (p10 (rhQ S (S 0 3))) ∧ I2 (lo + 102) 2 = sdL S (fun c => G9 S L T (siR S (S 0 3).toNat c)) (p10 (rhQ S (S 0 3))) := by
  obtain ⟨d, rfl⟩ : ∃ e, d = e + 1 := ⟨d - 1, by omega⟩
  obtain ⟨p0, p1⟩ := hC.p
  have hP := hC.P102
  have hlP : lo ≤ lo + 102 := by omega
  have hNC := hN.1
  obtain ⟨hNi, h0, h1, h2, hS, hV, hL, hLV, hT, hTV, hA, hDV, hSi⟩ := id hNC
  have v := hV.1
  obtain ⟨I0', eI0⟩ : ∃ X, X = u3 (u3 I (lo + 102) 5 0) (lo + 102) 2 100000000 := ⟨_, rfl⟩
  have hfill := fill_sp (E := E) (lo := lo) (d := d) (μ := μ) (I := I0') (n := 9) (v := -1) (by omega) (hNi.2 (4, 15, 0, 9) (by decide)).2 (by omega) (by omega)
  obtain ⟨si, esi⟩ : ∃ si, si = flr (I0' (lo + 84 + 15)) 0 9 (-1) := ⟨_, rfl⟩
  obtain ⟨I1, eI1⟩ : ∃ I1, I1 = sA I0' (lo + 84 + 15) si := ⟨_, rfl⟩
  have c1 : ∀ a, a ≠ lo + 84 + 15 → a ≠ lo + 102 → I1 a = I a := fun a q1 q2 => by rw [eI1, sA_n q1, eI0, u3_c q2, u3_c q2]
  have hsv : ∀ i, 0 ≤ i → i < 9 → si i = -1 := fun i q1 q2 => by rw [esi]; unfold flr; rw [if_pos ⟨q1, q2⟩]
  have hSV1 : SiV (I1 (lo + 84 + 15)) := fun i q1 q2 => by rw [eI1, sA_s, hsv i q1 q2]; omega
  have hN1 : NC μ I1 (lo + 84) s l t S L T := NC_fs hNC (fun a _ _ => c1 a (by omega) (by omega)) (fun a _ _ => c1 a (by omega) (by omega)) (fun a _ _ => c1 a (by omega) (by omega)) (c1 _ (by omega) (by omega)) hSV1
  have hSo : SIo S si := fun i q1 q2 => by rw [hsv i q1 (by omega)]; exact ⟨by omega, by omega, fun z => absurd rfl z⟩
  have hrq := rqM_n hV
  have r0 := (rhQ_b (S := S) (k := S 0 3) (by omega)).1
  have pN := p10_p (rhQ S (S 0 3))
  have pb := p10_b hr
  have p4 : p10 4 = 10000 := by decide
  have cb : Cn S (S 0 3).toNat 0 ≤ 10000 := by
    have := sm_b (fun c => b2i (stR S (S 0 3).toNat c 0)) (n := p10 (rqM S (S 0 3).toNat)) (A := 0) (B := 1) (by rw [hrq]; omega) (fun i _ _ => b2i_r _)
    unfold Cn
    rw [hrq] at this ⊢
    omega
  have cb1 := Cn_1 hV (S 0 3).toNat 0 (by omega)
  obtain ⟨I2, b1, e2, w1, w2, w3, w4, w5, w6⟩ := try_sp (E := E) (lo := lo) (L := L) hC hZ hs hV (S 0 3).toNat d 0 0 0 100000000 si I1 (by omega) (by omega) (by omega) hN1 (by rw [c1 _ (by omega) (by omega)]; exact hN.2.1) (by rw [eI1, sA_s]) (fun i q1 q2 => hsv i q1 (by omega)) hSo (by omega) (by rw [eI1, sA_n (by omega), eI0, u3_n (by omega), u3_s]) (by omega) (by rw [eI1, sA_n (by omega), eI0, u3_s]) (by omega)
  refine ⟨I2, ?_, ?_, ?_, ?_⟩
  · have hf2 : cl E lo d 289 [.ref (lo + 84 + 15), .int (J (-1))] (mj μ I0') = some (none, mj μ I1) := by
      rw [hfill, eI1, esi]
      rfl
    simp (disch := omega) only [b42_0, b42_5, e42, gO_P hP, gR_P4 hP, gR_P6 hP, gR_P7 hP, gR_P8 hP, gR_P9 hP, gR_P10 hP, al_P14 hP, al_P15 hP, al_P16 hP, al_P17 hP, al_P18 hP, al_P19 hP, rd_P14 hP, rd_P15 hP, rd_P16 hP, rd_P17 hP, rd_P18 hP, rd_P19 hP, gP_P hP hlP, wr_P14 hP hlP, wr_P15 hP hlP, wr_P16 hP hlP, wr_P17 hP hlP, wr_P18 hP hlP, wr_P19 hP hlP, eI0.symm, Jl0, Jl1, Jl2, Jl3, Jl4, Jl5, Jl6, Jl7, Jl8, Jl9, Jl10, Jl11, Jl12, Jl13, Jl14, Jl15, Jl16, Jl17, Jl18, Jl19, Jl20, Jl22, Jl24, Jl28, Jl30, Jl31, Jl32, Jl35, Jl36, Jl37, Jl38, Jl39, Jl40, Jl48, Jl57, Jl59, Jl60, Jl61, Jl63, Jl64, Jl68, Jl69, Jl96, Jl97, Jl98, Jl99, Jl100, Jl122, Jl149, Jl150, Jl165, Jl255, Jl511, Jl512, Jl600, Jl610, Jl940, Jl968, Jl999, Jl1134, Jl1152, Jl2048, Jl4608, Jl9999, Jl99999, Jl100000, Jl147456, Jl12345, Jl1103515245, Jl100000000, Jlm1, Jlm2, J_add, J_sub, J_mul, J_lt, J_le, J_eq, J_ite, J_cl, ri_j, wi_j, b2i_z, b2i_o, b2i_zo, Int.cast_ofNat_Int, Int.natCast_zero, Int.natCast_one, if_true, if_false, ite_self, Int.le_refl, J_bit, J_or, J_neg, J_oN, Int.reduceEq, Int.reduceLT, Int.reduceLE, Int.reduceNeg, Int.reduceAdd, Int.reduceSub, Int.reduceMul, Int.reduceToNat, J_shl, J_shr, V_ite, true_or, or_true, nz_j, J_div, J_rem, Option.bind_some, Option.toList_some, Option.toList_none, List.cons_append, List.nil_append, Jl21, Jl23, Jl25, Jl74, Jl83, Jl288, Jl324, Jl1800, Jlm8]
    simp (disch := omega) only [b42_11, b42_22, b42_28, gO_P hP, gR_P4 hP, gR_P6 hP, gR_P7 hP, gR_P8 hP, gR_P9 hP, gR_P10 hP, al_P14 hP, al_P15 hP, al_P16 hP, al_P17 hP, al_P18 hP, al_P19 hP, rd_P14 hP, rd_P15 hP, rd_P16 hP, rd_P17 hP, rd_P18 hP, rd_P19 hP, gR_k p0, gO_N hNi, gR_N3 hNi, gR_N4 hNi, gR_N5 hNi, gR_N6 hNi, al_N14 hNi, al_N15 hNi, al_N16 hNi, al_N17 hNi, rd_N14 hNi, rd_N15 hNi, rd_N16 hNi, rd_N17 hNi, hf2, e2, Jl0, Jl1, Jl2, Jl3, Jl4, Jl5, Jl6, Jl7, Jl8, Jl9, Jl10, Jl11, Jl12, Jl13, Jl14, Jl15, Jl16, Jl17, Jl18, Jl19, Jl20, Jl22, Jl24, Jl28, Jl30, Jl31, Jl32, Jl35, Jl36, Jl37, Jl38, Jl39, Jl40, Jl48, Jl57, Jl59, Jl60, Jl61, Jl63, Jl64, Jl68, Jl69, Jl96, Jl97, Jl98, Jl99, Jl100, Jl122, Jl149, Jl150, Jl165, Jl255, Jl511, Jl512, Jl600, Jl610, Jl940, Jl968, Jl999, Jl1134, Jl1152, Jl2048, Jl4608, Jl9999, Jl99999, Jl100000, Jl147456, Jl12345, Jl1103515245, Jl100000000, Jlm1, Jlm2, J_add, J_sub, J_mul, J_lt, J_le, J_eq, J_ite, J_cl, ri_j, wi_j, b2i_z, b2i_o, b2i_zo, Int.cast_ofNat_Int, Int.natCast_zero, Int.natCast_one, if_true, if_false, ite_self, Int.le_refl, J_bit, J_or, J_neg, J_oN, Int.reduceEq, Int.reduceLT, Int.reduceLE, Int.reduceNeg, Int.reduceAdd, Int.reduceSub, Int.reduceMul, Int.reduceToNat, J_shl, J_shr, V_ite, true_or, or_true, nz_j, J_div, J_rem, Option.bind_some, Option.toList_some, Option.toList_none, List.cons_append, List.nil_append, Jl21, Jl23, Jl25, Jl74, Jl83, Jl288, Jl324, Jl1800, Jlm8]
  · refine ⟨⟨rfl, rfl, rfl, fun _ _ _ => rfl, id⟩, fun a q => by rw [w1 a (by omega) (by omega) (by omega) (by omega), c1 a (by omega) (by omega)], fun q => ⟨?_, ?_⟩⟩
    · rw [w1 _ (by omega) (by omega) (by omega) (by omega), c1 _ (by omega) (by omega)]; exact q.1
    · rw [w2]
      intro i q1 q2
      rw [hsv i q1 q2]
      omega
  · rw [w3, Cn_W, hrq]
    omega
  · rw [w4]
    -- the least
    have eov : ∀ c, G9 S L T (ovS S si (S 0 3).toNat c) = G9 S L T (siR S (S 0 3).toNat c) := fun c => G9_c (fun j q1 q2 => by unfold ovS; rw [if_pos (by omega)])
    have hG : ∀ c, stR S (S 0 3).toNat c 0 = true → 0 ≤ G9 S L T (siR S (S 0 3).toNat c) ∧ G9 S L T (siR S (S 0 3).toNat c) ≤ 9000 := fun c hc => G9_b hV hLV hTV (fun j q1 q2 => by
      have b1 := siR_b (S := S) (m := (S 0 3).toNat) (c := c) (j := j)
      have b2 := siR_o (j := j) hc
      exact ⟨b1.1, by omega, fun z => siR_r z⟩)
    obtain ⟨m1, m2, m3⟩ := w6
    rw [hrq] at m2 m3
    obtain ⟨x1, x2⟩ := sdL_c (S := S) (G := fun c => G9 S L T (siR S (S 0 3).toNat c)) (N := p10 (rhQ S (S 0 3))) (by omega) (fun c q1 q2 q3 => (hG c q3).1)
    have hex : ∃ c, 0 ≤ c ∧ c < p10 (rhQ S (S 0 3)) ∧ stR S (S 0 3).toNat c 0 = true := by
      apply Classical.byContradiction
      intro q
      have z : Cn S (S 0 3).toNat 0 = 0 := sm_z _ (by rw [hrq]; omega) (fun c q1 q2 => by
        cases hc : stR S (S 0 3).toNat c 0 with
        | false => rfl
        | true => exact absurd ⟨c, q1, by rw [hrq] at q2; exact q2, hc⟩ q)
      omega
    obtain ⟨cx, y1, y2, y3⟩ := hex
    have z1 := x1 cx y1 y2 y3
    have z2 := hG cx y3
    rcases x2 with x2 | ⟨c, q1, q2, q3, q4⟩
    · exact absurd x2 z1.2
    · have a1 := m2 c q1 q2 trivial q3
      rw [eov] at a1
      rcases m3 with m3 | ⟨c', q1', q2', _, q3', q4'⟩
      · have := hG c q3
        omega
      · rw [eov] at q4'
        have := (x1 c' q1' q2' q3').1
        omega
theorem c_standins (hd : 17 ≤ d) (hK : CK μ I lo) (hx : i32 x ∧ i32 y ∧ i32 z) (eS : S = rws I (lo + 8 + 20 * x.toNat)) (eL : L = rws I (lo + 21 + 20 * y.toNat)) (eR : R = rws I (lo + 23 + 20 * z.toNat)) (eT : T = wlS S R (rws I (lo + 74)) 40) : CQ lo μ I (if o3b I lo x y z = true ∧ rhQ S (S 0 3) ≤ 4 then (if bb = true then sdL S (fun c => G9 S L T (siR S (S 0 3).toNat c)) (p10 (rhQ S (S 0 3))) else sdW S (p10 (rhQ S (S 0 3)))) else -1) (cl E lo d 147 [.ref lo, .int (J (x)), .int (J (y)), .int (J (z)), .int (J ((b2i bb)))] (mj μ I)) := by
  obtain ⟨d, rfl⟩ : ∃ e, d = e + 1 := ⟨d - 1, by omega⟩
  have hx' := hx
  unfold i32 at hx'
  have hC := hK.1
  obtain ⟨hO, f0, f1, f2, f3, f4, f5, f6, f7, f8, hD⟩ := CO.o hC
  have hc0 := hK.2.1.1 0 (by omega) (by omega)
  have hc1 := hK.2.1.1 1 (by omega) (by omega)
  by_cases c3 : o3c I lo x y z
  · obtain ⟨μ2, I2, o1, o2, o3, hV5, hLV, hRV, hTV, hTZ⟩ := iop (E := E) (d := d) (by omega) hK ⟨hx.1, hx.2.1, hx.2.2⟩ eS eL eR eT c3
    have hC2 := o3.C hC
    have v := hV5.1.1
    have hy0 := c3.1
    have hy1 := c3.2.1
    have hNC := o2.1
    obtain ⟨hNi, h0, h1, h2, hS, hV, hL, _⟩ := id hNC
    have hSh := hS.1
    have hom := om_sp (E := E) (lo := lo) (d := d) (w := 3) (by omega) hS hV (by omega)
    have rb := rhQ_b (S := S) (k := S 0 3) (by omega)
    have eom : sm (fun k => if S 2 k = 3 then 1 else 0) (S 0 3) = rhQ S (S 0 3) := rfl
    rw [eom] at hom
    have s1 : cl E lo (d + 1) 147 [.ref lo, .int (J x), .int (J y), .int (J z), .int (J (b2i bb))] (mj μ I) = ex PG E lo d 147 10 [some (.ref lo), some (.int (J (x))), some (.int (J (y))), some (.int (J (z))), some (.int (J ((b2i bb))))] [] (mj μ2 I2) := by
      simp (disch := omega) only [b147_0, b147_7, e147, gO_k hO, gR_k f0, gR_k f1, gR_k f2, gR_k f3, gR_k f4, gR_k f5, gR_k f6, gR_k f7, gR_k f8, gO_D hD, gR_D0 hD, gR_D4 hD, gR_D5 hD, gR_D6 hD, gR_D7 hD, gR_D8 hD, al_D1 hD, al_D2 hD, al_D3 hD, al_D4 hD, al_D5 hD, al_D6 hD, rd_D1 hD, rd_D2 hD, rd_D3 hD, rd_D4 hD, rd_D5 hD, rd_D6 hD, o1, Jl0, Jl1, Jl2, Jl3, Jl4, Jl5, Jl6, Jl7, Jl8, Jl9, Jl10, Jl11, Jl12, Jl13, Jl14, Jl15, Jl16, Jl17, Jl18, Jl19, Jl20, Jl22, Jl24, Jl28, Jl30, Jl31, Jl32, Jl35, Jl36, Jl37, Jl38, Jl39, Jl40, Jl48, Jl57, Jl59, Jl60, Jl61, Jl63, Jl64, Jl68, Jl69, Jl96, Jl97, Jl98, Jl99, Jl100, Jl122, Jl149, Jl150, Jl165, Jl255, Jl511, Jl512, Jl600, Jl610, Jl940, Jl968, Jl999, Jl1134, Jl1152, Jl2048, Jl4608, Jl9999, Jl99999, Jl100000, Jl147456, Jl12345, Jl1103515245, Jl100000000, Jlm1, Jlm2, J_add, J_sub, J_mul, J_lt, J_le, J_eq, J_ite, J_cl, ri_j, wi_j, b2i_z, b2i_o, b2i_zo, Int.cast_ofNat_Int, Int.natCast_zero, Int.natCast_one, if_true, if_false, ite_self, Int.le_refl, J_bit, J_or, J_neg, J_oN, Int.reduceEq, Int.reduceLT, Int.reduceLE, Int.reduceNeg, Int.reduceAdd, Int.reduceSub, Int.reduceMul, Int.reduceToNat, J_shl, J_shr, V_ite, true_or, or_true, nz_j, J_div, J_rem, Option.bind_some, Option.toList_some, Option.toList_none, List.cons_append, List.nil_append, Jl21, Jl23, Jl25, Jl74, Jl83, Jl288, Jl324, Jl1800, Jlm8]
    rw [s1]
    clear hO f0 f1 f2 f3 f4 f5 f6 f7 f8 hD
    obtain ⟨hO, f0, f1, f2, f3, f4, f5, f6, f7, f8, hD⟩ := CO.o hC2
    by_cases cr : rhQ S (S 0 3) ≤ 4
    · rw [if_pos ⟨o3b_y c3, cr⟩]
      obtain ⟨I3, e3, q1, q2, q3⟩ := fst_sp (E := E) (lo := lo) (d := d) (by omega) hC2 o2 hTZ (by omega) cr
      refine ⟨μ2, I3, ?_, o3.t q1⟩
      have hP2 := hC2.P102
      cases bb with
      | false =>
        rw [if_neg (by decide)]
        simp (disch := omega) only [b147_10, b147_21, b147_27, b147_34, b147_49, b147_56, gO_k hO, gR_k f0, gR_k f1, gR_k f2, gR_k f3, gR_k f4, gR_k f5, gR_k f6, gR_k f7, gR_k f8, gO_D hD, gR_D0 hD, gR_D4 hD, gR_D5 hD, gR_D6 hD, gR_D7 hD, gR_D8 hD, al_D1 hD, al_D2 hD, al_D3 hD, al_D4 hD, al_D5 hD, al_D6 hD, rd_D1 hD, rd_D2 hD, rd_D3 hD, rd_D4 hD, rd_D5 hD, rd_D6 hD, gO_N hNi, gR_N3 hNi, gR_N4 hNi, gR_N5 hNi, gR_N6 hNi, al_N14 hNi, al_N15 hNi, al_N16 hNi, al_N17 hNi, rd_N14 hNi, rd_N15 hNi, rd_N16 hNi, rd_N17 hNi, gR_k h0, gO_S hSh, gR_S2 hSh, gR_S4 hSh, gR_S5 hSh, gR_S6 hSh, gR_S7 hSh, gR_S8 hSh, gR_S9 hSh, gR_S10 hSh, gR_S11 hSh, gR_S12 hSh, gR_S14 hSh, gR_S15 hSh, al_S1 hSh, al_S2 hSh, al_S3 hSh, al_S4 hSh, al_S5 hSh, al_S6 hSh, al_S7 hSh, al_S8 hSh, al_S9 hSh, al_S10 hSh, al_S11 hSh, al_S12 hSh, rd_S1 hSh, rd_S2 hSh, rd_S3 hSh, rd_S4 hSh, rd_S5 hSh, rd_S6 hSh, rd_S7 hSh, rd_S8 hSh, rd_S9 hSh, rd_S10 hSh, rd_S11 hSh, rd_S12 hSh, hom, gO_P hP2, gR_P4 hP2, gR_P6 hP2, gR_P7 hP2, gR_P8 hP2, gR_P9 hP2, gR_P10 hP2, al_P14 hP2, al_P15 hP2, al_P16 hP2, al_P17 hP2, al_P18 hP2, al_P19 hP2, rd_P14 hP2, rd_P15 hP2, rd_P16 hP2, rd_P17 hP2, rd_P18 hP2, rd_P19 hP2, e3, q2, b2i_f, Jl0, Jl1, Jl2, Jl3, Jl4, Jl5, Jl6, Jl7, Jl8, Jl9, Jl10, Jl11, Jl12, Jl13, Jl14, Jl15, Jl16, Jl17, Jl18, Jl19, Jl20, Jl22, Jl24, Jl28, Jl30, Jl31, Jl32, Jl35, Jl36, Jl37, Jl38, Jl39, Jl40, Jl48, Jl57, Jl59, Jl60, Jl61, Jl63, Jl64, Jl68, Jl69, Jl96, Jl97, Jl98, Jl99, Jl100, Jl122, Jl149, Jl150, Jl165, Jl255, Jl511, Jl512, Jl600, Jl610, Jl940, Jl968, Jl999, Jl1134, Jl1152, Jl2048, Jl4608, Jl9999, Jl99999, Jl100000, Jl147456, Jl12345, Jl1103515245, Jl100000000, Jlm1, Jlm2, J_add, J_sub, J_mul, J_lt, J_le, J_eq, J_ite, J_cl, ri_j, wi_j, b2i_z, b2i_o, b2i_zo, Int.cast_ofNat_Int, Int.natCast_zero, Int.natCast_one, if_true, if_false, ite_self, Int.le_refl, J_bit, J_or, J_neg, J_oN, Int.reduceEq, Int.reduceLT, Int.reduceLE, Int.reduceNeg, Int.reduceAdd, Int.reduceSub, Int.reduceMul, Int.reduceToNat, J_shl, J_shr, V_ite, true_or, or_true, nz_j, J_div, J_rem, Option.bind_some, Option.toList_some, Option.toList_none, List.cons_append, List.nil_append, Jl21, Jl23, Jl25, Jl74, Jl83, Jl288, Jl324, Jl1800, Jlm8]
        repeat (first | rw [if_neg (by omega)] | rw [if_pos (by omega)])
      | true =>
        rw [if_pos rfl]
        simp (disch := omega) only [b147_10, b147_21, b147_27, b147_34, b147_39, b147_56, gO_k hO, gR_k f0, gR_k f1, gR_k f2, gR_k f3, gR_k f4, gR_k f5, gR_k f6, gR_k f7, gR_k f8, gO_D hD, gR_D0 hD, gR_D4 hD, gR_D5 hD, gR_D6 hD, gR_D7 hD, gR_D8 hD, al_D1 hD, al_D2 hD, al_D3 hD, al_D4 hD, al_D5 hD, al_D6 hD, rd_D1 hD, rd_D2 hD, rd_D3 hD, rd_D4 hD, rd_D5 hD, rd_D6 hD, gO_N hNi, gR_N3 hNi, gR_N4 hNi, gR_N5 hNi, gR_N6 hNi, al_N14 hNi, al_N15 hNi, al_N16 hNi, al_N17 hNi, rd_N14 hNi, rd_N15 hNi, rd_N16 hNi, rd_N17 hNi, gR_k h0, gO_S hSh, gR_S2 hSh, gR_S4 hSh, gR_S5 hSh, gR_S6 hSh, gR_S7 hSh, gR_S8 hSh, gR_S9 hSh, gR_S10 hSh, gR_S11 hSh, gR_S12 hSh, gR_S14 hSh, gR_S15 hSh, al_S1 hSh, al_S2 hSh, al_S3 hSh, al_S4 hSh, al_S5 hSh, al_S6 hSh, al_S7 hSh, al_S8 hSh, al_S9 hSh, al_S10 hSh, al_S11 hSh, al_S12 hSh, rd_S1 hSh, rd_S2 hSh, rd_S3 hSh, rd_S4 hSh, rd_S5 hSh, rd_S6 hSh, rd_S7 hSh, rd_S8 hSh, rd_S9 hSh, rd_S10 hSh, rd_S11 hSh, rd_S12 hSh, hom, gO_P hP2, gR_P4 hP2, gR_P6 hP2, gR_P7 hP2, gR_P8 hP2, gR_P9 hP2, gR_P10 hP2, al_P14 hP2, al_P15 hP2, al_P16 hP2, al_P17 hP2, al_P18 hP2, al_P19 hP2, rd_P14 hP2, rd_P15 hP2, rd_P16 hP2, rd_P17 hP2, rd_P18 hP2, rd_P19 hP2, e3, q3, b2i_t, Jl0, Jl1, Jl2, Jl3, Jl4, Jl5, Jl6, Jl7, Jl8, Jl9, Jl10, Jl11, Jl12, Jl13, Jl14, Jl15, Jl16, Jl17, Jl18, Jl19, Jl20, Jl22, Jl24, Jl28, Jl30, Jl31, Jl32, Jl35, Jl36, Jl37, Jl38, Jl39, Jl40, Jl48, Jl57, Jl59, Jl60, Jl61, Jl63, Jl64, Jl68, Jl69, Jl96, Jl97, Jl98, Jl99, Jl100, Jl122, Jl149, Jl150, Jl165, Jl255, Jl511, Jl512, Jl600, Jl610, Jl940, Jl968, Jl999, Jl1134, Jl1152, Jl2048, Jl4608, Jl9999, Jl99999, Jl100000, Jl147456, Jl12345, Jl1103515245, Jl100000000, Jlm1, Jlm2, J_add, J_sub, J_mul, J_lt, J_le, J_eq, J_ite, J_cl, ri_j, wi_j, b2i_z, b2i_o, b2i_zo, Int.cast_ofNat_Int, Int.natCast_zero, Int.natCast_one, if_true, if_false, ite_self, Int.le_refl, J_bit, J_or, J_neg, J_oN, Int.reduceEq, Int.reduceLT, Int.reduceLE, Int.reduceNeg, Int.reduceAdd, Int.reduceSub, Int.reduceMul, Int.reduceToNat, J_shl, J_shr, V_ite, true_or, or_true, nz_j, J_div, J_rem, Option.bind_some, Option.toList_some, Option.toList_none, List.cons_append, List.nil_append, Jl21, Jl23, Jl25, Jl74, Jl83, Jl288, Jl324, Jl1800, Jlm8]
        repeat (first | rw [if_neg (by omega)] | rw [if_pos (by omega)])
    · rw [if_neg (fun q => cr q.2)]
      refine ⟨μ2, I2, ?_, o3⟩
      simp (disch := omega) only [b147_10, b147_21, b147_25, gO_k hO, gR_k f0, gR_k f1, gR_k f2, gR_k f3, gR_k f4, gR_k f5, gR_k f6, gR_k f7, gR_k f8, gO_D hD, gR_D0 hD, gR_D4 hD, gR_D5 hD, gR_D6 hD, gR_D7 hD, gR_D8 hD, al_D1 hD, al_D2 hD, al_D3 hD, al_D4 hD, al_D5 hD, al_D6 hD, rd_D1 hD, rd_D2 hD, rd_D3 hD, rd_D4 hD, rd_D5 hD, rd_D6 hD, gO_N hNi, gR_N3 hNi, gR_N4 hNi, gR_N5 hNi, gR_N6 hNi, al_N14 hNi, al_N15 hNi, al_N16 hNi, al_N17 hNi, rd_N14 hNi, rd_N15 hNi, rd_N16 hNi, rd_N17 hNi, gR_k h0, gO_S hSh, gR_S2 hSh, gR_S4 hSh, gR_S5 hSh, gR_S6 hSh, gR_S7 hSh, gR_S8 hSh, gR_S9 hSh, gR_S10 hSh, gR_S11 hSh, gR_S12 hSh, gR_S14 hSh, gR_S15 hSh, al_S1 hSh, al_S2 hSh, al_S3 hSh, al_S4 hSh, al_S5 hSh, al_S6 hSh, al_S7 hSh, al_S8 hSh, al_S9 hSh, al_S10 hSh, al_S11 hSh, al_S12 hSh, rd_S1 hSh, rd_S2 hSh, rd_S3 hSh, rd_S4 hSh, rd_S5 hSh, rd_S6 hSh, rd_S7 hSh, rd_S8 hSh, rd_S9 hSh, rd_S10 hSh, rd_S11 hSh, rd_S12 hSh, hom, Jl0, Jl1, Jl2, Jl3, Jl4, Jl5, Jl6, Jl7, Jl8, Jl9, Jl10, Jl11, Jl12, Jl13, Jl14, Jl15, Jl16, Jl17, Jl18, Jl19, Jl20, Jl22, Jl24, Jl28, Jl30, Jl31, Jl32, Jl35, Jl36, Jl37, Jl38, Jl39, Jl40, Jl48, Jl57, Jl59, Jl60, Jl61, Jl63, Jl64, Jl68, Jl69, Jl96, Jl97, Jl98, Jl99, Jl100, Jl122, Jl149, Jl150, Jl165, Jl255, Jl511, Jl512, Jl600, Jl610, Jl940, Jl968, Jl999, Jl1134, Jl1152, Jl2048, Jl4608, Jl9999, Jl99999, Jl100000, Jl147456, Jl12345, Jl1103515245, Jl100000000, Jlm1, Jlm2, J_add, J_sub, J_mul, J_lt, J_le, J_eq, J_ite, J_cl, ri_j, wi_j, b2i_z, b2i_o, b2i_zo, Int.cast_ofNat_Int, Int.natCast_zero, Int.natCast_one, if_true, if_false, ite_self, Int.le_refl, J_bit, J_or, J_neg, J_oN, Int.reduceEq, Int.reduceLT, Int.reduceLE, Int.reduceNeg, Int.reduceAdd, Int.reduceSub, Int.reduceMul, Int.reduceToNat, J_shl, J_shr, V_ite, true_or, or_true, nz_j, J_div, J_rem, Option.bind_some, Option.toList_some, Option.toList_none, List.cons_append, List.nil_append, Jl21, Jl23, Jl25, Jl74, Jl83, Jl288, Jl324, Jl1800, Jlm8]
      repeat (first | rw [if_neg (by omega)] | rw [if_pos (by omega)])
  · rw [if_neg (fun q => c3 (o3b_c q.1))]
    obtain ⟨I2, o1, o3⟩ := iop_n (E := E) (d := d) (by omega) hC hK.2.1 ⟨hx.1, hx.2.1, hx.2.2⟩ c3
    refine ⟨μ, I2, ?_, o3⟩
    simp (disch := omega) only [b147_0, b147_7, b147_25, e147, gO_k hO, gR_k f0, gR_k f1, gR_k f2, gR_k f3, gR_k f4, gR_k f5, gR_k f6, gR_k f7, gR_k f8, gO_D hD, gR_D0 hD, gR_D4 hD, gR_D5 hD, gR_D6 hD, gR_D7 hD, gR_D8 hD, al_D1 hD, al_D2 hD, al_D3 hD, al_D4 hD, al_D5 hD, al_D6 hD, rd_D1 hD, rd_D2 hD, rd_D3 hD, rd_D4 hD, rd_D5 hD, rd_D6 hD, o1, Jl0, Jl1, Jl2, Jl3, Jl4, Jl5, Jl6, Jl7, Jl8, Jl9, Jl10, Jl11, Jl12, Jl13, Jl14, Jl15, Jl16, Jl17, Jl18, Jl19, Jl20, Jl22, Jl24, Jl28, Jl30, Jl31, Jl32, Jl35, Jl36, Jl37, Jl38, Jl39, Jl40, Jl48, Jl57, Jl59, Jl60, Jl61, Jl63, Jl64, Jl68, Jl69, Jl96, Jl97, Jl98, Jl99, Jl100, Jl122, Jl149, Jl150, Jl165, Jl255, Jl511, Jl512, Jl600, Jl610, Jl940, Jl968, Jl999, Jl1134, Jl1152, Jl2048, Jl4608, Jl9999, Jl99999, Jl100000, Jl147456, Jl12345, Jl1103515245, Jl100000000, Jlm1, Jlm2, J_add, J_sub, J_mul, J_lt, J_le, J_eq, J_ite, J_cl, ri_j, wi_j, b2i_z, b2i_o, b2i_zo, Int.cast_ofNat_Int, Int.natCast_zero, Int.natCast_one, if_true, if_false, ite_self, Int.le_refl, J_bit, J_or, J_neg, J_oN, Int.reduceEq, Int.reduceLT, Int.reduceLE, Int.reduceNeg, Int.reduceAdd, Int.reduceSub, Int.reduceMul, Int.reduceToNat, J_shl, J_shr, V_ite, true_or, or_true, nz_j, J_div, J_rem, Option.bind_some, Option.toList_some, Option.toList_none, List.cons_append, List.nil_append, Jl21, Jl23, Jl25, Jl74, Jl83, Jl288, Jl324, Jl1800, Jlm8]
end CLASS
