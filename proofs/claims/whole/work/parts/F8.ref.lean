/-! THE REFERENCE: an act; a round -/
def FrN (M M' : Nat → Int → Int) : Prop := (∀ c, c ≠ 0 → (c < 9 ∨ 13 < c) → M' c = M c) ∧ ∀ j, (j < 25 ∨ 30 < j) → M' 0 j = M 0 j
theorem FrN.tr {M M' M'' : Nat → Int → Int} (h : FrN M M') (h' : FrN M' M'') : FrN M M'' := ⟨fun c q1 q2 => (h'.1 c q1 q2).trans (h.1 c q1 q2), fun j q => (h'.2 j q).trans (h.2 j q)⟩
theorem FrN.S {M M' S : Nat → Int → Int} (h : FrN M M') (hR : RS M S) : RS M' S := hR.fr (h.2 12 (by decide)) (h.2 18 (by decide)) (h.1 1 (by decide) (by decide)) (h.1 4 (by decide) (by decide)) (h.1 5 (by decide) (by decide)) (h.1 7 (by decide) (by decide)) (h.1 8 (by decide) (by decide))
theorem FrN.L {M M' L : Nat → Int → Int} (h : FrN M M') (hL : RL M L) : RL M' L := hL.fr (h.2 23 (by decide)) (h.1 1 (by decide) (by decide))
theorem FrN.Q {M M' R : Nat → Int → Int} (h : FrN M M') (hL : RQ M R) : RQ M' R := hL.fr (h.2 24 (by decide)) (h.1 1 (by decide) (by decide))
/-- alarms and stand-ins are in order -/
def RB (M S : Nat → Int → Int) : Prop := (-1 ≤ M 0 19 ∧ M 0 19 ≤ 8) ∧ (0 ≤ M 0 19 → (-1 ≤ M 0 20 ∧ M 0 20 ≤ 35) ∧ (-1 ≤ M 0 21 ∧ M 0 21 ≤ 35)) ∧ ∀ k, 0 ≤ k → k < S 0 3 → -1 ≤ M 6 k ∧ M 6 k < S 0 3
theorem FrN.B {M M' S : Nat → Int → Int} (h : FrN M M') (hB : RB M S) : RB M' S := by
  unfold RB at *
  rw [h.2 19 (by decide), h.2 20 (by decide), h.2 21 (by decide), h.1 6 (by decide) (by decide)]
  exact hB
theorem RN.fr {S L T M M' : Nat → Int → Int} {rd : Int → Int → Int} (h : RN S L rd T M) (hj : ∀ j, j ≠ 29 → M' 0 j = M 0 j) (hc : ∀ c, c ≠ 0 → M' c = M c) : RN S L rd T M' := by
  unfold RN at *
  rw [hj 25 (by decide), hj 26 (by decide), hj 27 (by decide), hj 28 (by decide), hj 30 (by decide), hj 31 (by decide), hc 9 (by decide), hc 10 (by decide), hc 11 (by decide), hc 13 (by decide)]
  exact h
theorem lwS_t {S T : Nat → Int → Int} {i k : Int} (hW : TW S i T) : lwS S T k 35 = lwS S T k (T 0 1) := by
  obtain ⟨w1, w2, w3, w4, w5, w6⟩ := hW
  unfold lwS
  refine fo_tail _ _ (by omega) (fun u x g1 g2 => ?_)
  have a := (w2 u (by omega) (by omega)).1
  have : T 1 u = -1 := by
    by_cases c : T 1 u = -1
    · exact c
    · have := a.2.2 c; omega
  unfold wkS
  rw [this]
  simp
theorem lwS_b {S T : Nat → Int → Int} {k u : Int} (hu : -1 ≤ u) : -1 ≤ lwS S T k u ∧ lwS S T k u ≤ u := by
  unfold lwS
  have := fo_ind (fun m x => -1 ≤ x ∧ x ≤ m - 1) (fun v x => if (wkS S T k v && asS S k v) = true then v else x) (-1) (n := u + 1) (by omega) (by omega) (fun i x h1 h2 h3 => by split <;> omega)
  omega
theorem soT_r {T : Nat → Int → Int} {j : Int} : (u3 (soT T) 0 2 j 0 0 = T 0 0 ∧ u3 (soT T) 0 2 j 0 1 = T 0 1) ∧ u3 (soT T) 0 2 j 1 = T 1 ∧ (∀ v, u3 (soT T) 0 2 j 2 v = if v = T 0 1 then T 0 0 else T 2 v) ∧ (∀ v, u3 (soT T) 0 2 j 3 v = if v = T 0 1 then T 3 (T 0 1) + 1 else T 3 v) := by
  unfold soT
  by_cases c : T 3 (T 0 1) = 0 ∧ T 0 7 < 36
  · rw [if_pos c]
    refine ⟨by simp [u3], by funext x; simp [u3], fun v => by simp [u3], fun v => by simp [u3]⟩
  · rw [if_neg c]
    refine ⟨by simp [u3], by funext x; simp [u3], fun v => by simp [u3], fun v => by simp [u3]⟩
section REF
variable {E : (Nat → Value) × (Nat → Nat)} {lo d m : Nat} {μ : rM} {I M M0 S L R T : Nat → Int → Int} {k u x y z h w s r i : Int}
theorem dos_sp (hd : 8 ≤ d) (hM : ShM μ m) (hl : lo ≤ m) (hR : RS M S) (hV : SV S) (hL : M 0 31 = 1 → RL M L) (hLV : LV L) (hQ : RQ M R) (hRV : RV R) (hB : RB M S) (h31 : M 0 31 = 0 ∨ M 0 31 = 1) (hi : 0 ≤ i ∧ i < R 0 2) (hW : TW S i T) (hN : RN S L (rdT S (M 0 19) (M 0 20) (M 0 21) (M 6) T) T M) (hc : canT S (R 1 i) (R 2 i) (T 0 0) (T 0 1) = true) : ∃ M', cl E lo d 232 [.ref m, .int (J (i))] (mj μ (sB I m 26 M)) = some (none, mj μ (sB I m 26 M')) ∧ FrN M M' ∧ M' 0 29 = M 0 29 ∧ RN S L (rdT S (M 0 19) (M 0 20) (M 0 21) (M 6) (u3 (stepT S (R 1 i) (R 2 i) T) 0 2 (i + 1))) (u3 (stepT S (R 1 i) (R 2 i) T) 0 2 (i + 1)) M' := by
  obtain ⟨d, rfl⟩ : ∃ e, d = e + 1 := ⟨d - 1, by omega⟩
  have v := hV.1
  have vr := hRV.1
  have vi := hRV.2 i hi.1 hi.2
  obtain ⟨q1, q2, q3⟩ := id hQ
  obtain ⟨e3, e4⟩ := q3 i hi.1 hi.2
  have w1 := hW.1
  obtain ⟨p1, p2, p3, p4, p5, p6, p7, p8⟩ := id hN
  have p9 : ∀ k, 0 ≤ k → k < S 0 3 → M 9 k = lwS S T k (T 0 1) := fun k g1 g2 => by rw [p5 k g1 g2, lwS_t hW]
  have hA : ∀ k, 0 ≤ k → k < S 0 3 → RA M S k (M 0 26) := by
    intro k g1 g2
    refine ⟨fun j g3 g4 => ?_, hB.1, fun q => hB.2.1 (by omega), hB.2.2 k g1 g2⟩
    rw [p9 j g3 g4, p1.2]
    exact lwS_b (by omega)
  unfold canT at hc
  by_cases c1 : R 1 i = 1
  · obtain ⟨M', e, hP⟩ := sou_sp (E := E) (lo := lo) (d := d) (I := I) (L := L) (by omega) hM hl hR hV hL hLV (by omega) (by omega) hA h31 p8
    have z1 := hP.1
    have z2 := hP.2.1
    refine ⟨M', ?_, ⟨fun c g1 g2 => ?_, fun j g => ?_⟩, ?_, ?_⟩
    · simp (disch := omega) only [b232_0, b232_37, b232_41, e232, gO_M hM, gR_M0 hM, gR_M1 hM, gR_M11 hM, gR_M13 hM, gR_M14 hM, gR_M15 hM, gR_M16 hM, gR_M17 hM, gR_M22 hM, gR_M32 hM, gR_M33 hM, gR_M34 hM, gR_M35 hM, gR_M36 hM, gR_M37 hM, gR_M38 hM, gR_M41 hM, gR_M42 hM, gR_M43 hM, gR_M45 hM, gR_M46 hM, gR_M47 hM, gR_M50 hM, gR_M51 hM, gR_M52 hM, al_M1 hM, al_M2 hM, al_M3 hM, al_M4 hM, al_M5 hM, al_M6 hM, al_M7 hM, al_M8 hM, al_M9 hM, al_M10 hM, al_M11 hM, al_M12 hM, al_M13 hM, al_M14 hM, al_M15 hM, al_M16 hM, al_M17 hM, al_M18 hM, al_M19 hM, al_M20 hM, al_M21 hM, al_M22 hM, al_M23 hM, al_M24 hM, al_M25 hM, rd_M1 hM, rd_M2 hM, rd_M3 hM, rd_M4 hM, rd_M5 hM, rd_M6 hM, rd_M7 hM, rd_M8 hM, rd_M9 hM, rd_M10 hM, rd_M11 hM, rd_M12 hM, rd_M13 hM, rd_M14 hM, rd_M15 hM, rd_M16 hM, rd_M17 hM, rd_M18 hM, rd_M19 hM, rd_M20 hM, rd_M21 hM, rd_M22 hM, rd_M23 hM, rd_M24 hM, rd_M25 hM, sB_0, sB_c, u3_sB0, u3_sB, u3_s, u3_n, Nat.reduceLT, e3, e4, c1, e, Jl0, Jl1, Jl2, Jl3, Jl4, Jl5, Jl6, Jl7, Jl8, Jl9, Jl10, Jl11, Jl12, Jl13, Jl14, Jl15, Jl16, Jl17, Jl18, Jl19, Jl20, Jl22, Jl24, Jl28, Jl30, Jl31, Jl32, Jl35, Jl36, Jl37, Jl38, Jl39, Jl40, Jl48, Jl57, Jl59, Jl60, Jl61, Jl63, Jl64, Jl68, Jl69, Jl96, Jl97, Jl98, Jl99, Jl100, Jl122, Jl149, Jl150, Jl165, Jl255, Jl511, Jl512, Jl600, Jl610, Jl940, Jl968, Jl999, Jl1134, Jl1152, Jl2048, Jl4608, Jl9999, Jl99999, Jl100000, Jl147456, Jl12345, Jl1103515245, Jl100000000, Jlm1, Jlm2, J_add, J_sub, J_mul, J_lt, J_le, J_eq, J_ite, J_cl, ri_j, wi_j, b2i_z, b2i_o, b2i_zo, Int.cast_ofNat_Int, Int.natCast_zero, Int.natCast_one, if_true, if_false, ite_self, Int.le_refl, J_bit, J_or, J_neg, J_oN, Int.reduceEq, Int.reduceLT, Int.reduceLE, Int.reduceNeg, Int.reduceAdd, Int.reduceSub, Int.reduceMul, Int.reduceToNat, J_shl, J_shr, V_ite, true_or, or_true, nz_j, J_div, J_rem, Option.bind_some, Option.toList_some, Option.toList_none, List.cons_append, List.nil_append]
    · rw [z1 c g1 (by omega) (by omega) (by omega), sA_n (by omega)]
    · rw [z2 j (by omega) (by omega), sA_n (by decide)]
    · rw [z2 29 (by decide) (by decide), sA_n (by decide)]
    · have es : stepT S (R 1 i) (R 2 i) T = soT T := by
        unfold stepT
        rw [if_pos c1]
      obtain ⟨t0, t1, t2, t3⟩ := soT_r (T := T) (j := i + 1)
      rw [es, rdT_c t1]
      refine RN_so hV hW hN t0.1 t0.2 t1 t2 t3 (sA_n (by decide)) (fun c g => sA_n g) (fun k g1 g2 => ?_) (fun k g1 g2 => ?_) h31 hP
      · rw [sA_s, ov_i (by omega)]
        unfold rnR rdT
        rw [p1.1, p1.2]
        by_cases c2 : S 3 k = T 0 0
        · rw [if_pos ⟨g2, c2⟩, if_pos c2]
          exact rqR_W p9 ⟨g1, g2⟩ (hB.2.2 k g1 g2)
        · rw [if_neg (fun q => c2 q.2), if_neg c2]
      · exact (rqR_b hV ⟨g1, g2⟩ (by omega) (fun j g3 g4 => (lwS_b (by omega)).2) (hB.2.2 k g1 g2)).1
  · rw [if_neg c1] at hc
    by_cases c0 : R 1 i = 0
    · rw [if_pos c0, decide_eq_true_eq] at hc
      have hdb := hV.2.1 (T 0 0 * 8 + R 2 i) (by omega) (by omega)
      generalize hMx : u3 (u3 M 0 26 (T 0 1 + S 1 (T 0 0 * 8 + R 2 i))) 0 25 (R 2 i) = Mx
      have hRx : RS Mx S := by rw [← hMx]; exact hR.fr (by simp [u3]) (by simp [u3]) (by funext x; simp [u3]) (by funext x; simp [u3]) (by funext x; simp [u3]) (by funext x; simp [u3]) (by funext x; simp [u3])
      have x25 : Mx 0 25 = R 2 i := by rw [← hMx]; simp [u3]
      have x26 : Mx 0 26 = T 0 1 + S 1 (T 0 0 * 8 + R 2 i) := by rw [← hMx]; simp [u3]
      have xc : ∀ c, c ≠ 0 → Mx c = M c := fun c g => by rw [← hMx, u3_c g, u3_c g]
      have xj : ∀ j, j ≠ 25 → j ≠ 26 → Mx 0 j = M 0 j := fun j g1 g2 => by rw [← hMx, u3_n (by omega), u3_n (by omega)]
      obtain ⟨M', e, hP⟩ := wks_sp (E := E) (lo := lo) (d := d) (I := I) (M := Mx) (by omega) hM hl hRx hV (by omega) (by omega)
      obtain ⟨z1, z2, z3, z4⟩ := hP
      have hdr := dr_sp (E := E) (lo := lo) (d := d) (I := I) (x := T 0 0) (y := R 2 i) (by omega) hM hR (by omega) (by omega)
      have es : stepT S (R 1 i) (R 2 i) T = goT (R 2 i) (S 1 (T 0 0 * 8 + R 2 i)) T := by
        unfold stepT
        rw [if_neg c1, if_pos c0]
      have t00 : u3 (goT (R 2 i) (S 1 (T 0 0 * 8 + R 2 i)) T) 0 2 (i + 1) 0 0 = R 2 i := by unfold goT; simp [u3]
      have t01 : u3 (goT (R 2 i) (S 1 (T 0 0 * 8 + R 2 i)) T) 0 2 (i + 1) 0 1 = T 0 1 + S 1 (T 0 0 * 8 + R 2 i) := by unfold goT; simp [u3]
      have t1 : ∀ v, u3 (goT (R 2 i) (S 1 (T 0 0 * 8 + R 2 i)) T) 0 2 (i + 1) 1 v = if v = T 0 1 + S 1 (T 0 0 * 8 + R 2 i) then R 2 i else T 1 v := by intro v; unfold goT; simp [u3]
      have t2 : u3 (goT (R 2 i) (S 1 (T 0 0 * 8 + R 2 i)) T) 0 2 (i + 1) 2 = T 2 := by funext x; unfold goT; simp [u3]
      have t3 : u3 (goT (R 2 i) (S 1 (T 0 0 * 8 + R 2 i)) T) 0 2 (i + 1) 3 = T 3 := by funext x; unfold goT; simp [u3]
      refine ⟨M', ?_, ⟨fun c g1 g2 => ?_, fun j g => ?_⟩, ?_, ?_⟩
      · rw [← hMx] at e
        simp (disch := omega) only [b232_0, b232_42, b232_51, b232_60, b232_64, b232_68, b232_73, b232_78, b232_82, e232, gO_M hM, gR_M0 hM, gR_M1 hM, gR_M11 hM, gR_M13 hM, gR_M14 hM, gR_M15 hM, gR_M16 hM, gR_M17 hM, gR_M22 hM, gR_M32 hM, gR_M33 hM, gR_M34 hM, gR_M35 hM, gR_M36 hM, gR_M37 hM, gR_M38 hM, gR_M41 hM, gR_M42 hM, gR_M43 hM, gR_M45 hM, gR_M46 hM, gR_M47 hM, gR_M50 hM, gR_M51 hM, gR_M52 hM, al_M1 hM, al_M2 hM, al_M3 hM, al_M4 hM, al_M5 hM, al_M6 hM, al_M7 hM, al_M8 hM, al_M9 hM, al_M10 hM, al_M11 hM, al_M12 hM, al_M13 hM, al_M14 hM, al_M15 hM, al_M16 hM, al_M17 hM, al_M18 hM, al_M19 hM, al_M20 hM, al_M21 hM, al_M22 hM, al_M23 hM, al_M24 hM, al_M25 hM, rd_M1 hM, rd_M2 hM, rd_M3 hM, rd_M4 hM, rd_M5 hM, rd_M6 hM, rd_M7 hM, rd_M8 hM, rd_M9 hM, rd_M10 hM, rd_M11 hM, rd_M12 hM, rd_M13 hM, rd_M14 hM, rd_M15 hM, rd_M16 hM, rd_M17 hM, rd_M18 hM, rd_M19 hM, rd_M20 hM, rd_M21 hM, rd_M22 hM, rd_M23 hM, rd_M24 hM, rd_M25 hM, gP_M hM hl, wr_M1 hM hl, wr_M2 hM hl, wr_M3 hM hl, wr_M4 hM hl, wr_M5 hM hl, wr_M6 hM hl, wr_M7 hM hl, wr_M8 hM hl, wr_M9 hM hl, wr_M10 hM hl, wr_M11 hM hl, wr_M12 hM hl, wr_M13 hM hl, wr_M14 hM hl, wr_M15 hM hl, wr_M16 hM hl, wr_M17 hM hl, wr_M18 hM hl, wr_M19 hM hl, wr_M20 hM hl, wr_M21 hM hl, wr_M22 hM hl, wr_M23 hM hl, wr_M24 hM hl, wr_M25 hM hl, sB_0, sB_c, u3_sB0, u3_sB, u3_s, u3_n, Nat.reduceLT, e3, e4, c0, p1.1, p1.2, hdr, e, Jl0, Jl1, Jl2, Jl3, Jl4, Jl5, Jl6, Jl7, Jl8, Jl9, Jl10, Jl11, Jl12, Jl13, Jl14, Jl15, Jl16, Jl17, Jl18, Jl19, Jl20, Jl22, Jl24, Jl28, Jl30, Jl31, Jl32, Jl35, Jl36, Jl37, Jl38, Jl39, Jl40, Jl48, Jl57, Jl59, Jl60, Jl61, Jl63, Jl64, Jl68, Jl69, Jl96, Jl97, Jl98, Jl99, Jl100, Jl122, Jl149, Jl150, Jl165, Jl255, Jl511, Jl512, Jl600, Jl610, Jl940, Jl968, Jl999, Jl1134, Jl1152, Jl2048, Jl4608, Jl9999, Jl99999, Jl100000, Jl147456, Jl12345, Jl1103515245, Jl100000000, Jlm1, Jlm2, J_add, J_sub, J_mul, J_lt, J_le, J_eq, J_ite, J_cl, ri_j, wi_j, b2i_z, b2i_o, b2i_zo, Int.cast_ofNat_Int, Int.natCast_zero, Int.natCast_one, if_true, if_false, ite_self, Int.le_refl, J_bit, J_or, J_neg, J_oN, Int.reduceEq, Int.reduceLT, Int.reduceLE, Int.reduceNeg, Int.reduceAdd, Int.reduceSub, Int.reduceMul, Int.reduceToNat, J_shl, J_shr, V_ite, true_or, or_true, nz_j, J_div, J_rem, Option.bind_some, Option.toList_some, Option.toList_none, List.cons_append, List.nil_append]
      · rw [z1 c g1 (by omega), xc c g1]
      · rw [z2 j (by omega), xj j (by omega) (by omega)]
      · rw [z2 29 (by decide), xj 29 (by decide) (by decide)]
      · rw [es]
        generalize hT' : u3 (goT (R 2 i) (S 1 (T 0 0 * 8 + R 2 i)) T) 0 2 (i + 1) = T' at *
        refine RN_go (nb := R 2 i) hV hW hN (by omega) (by omega) t00 (by rw [t01]; exact t1) t2 t3 ?_ (fun c g1 g2 => (z1 c g1 g2).trans (xc c g1)) (fun j g1 g2 g3 => (z2 j g3).trans (xj j g1 g2)) ((z2 25 (by decide)).trans x25) ((z2 26 (by decide)).trans (x26.trans t01.symm)) ?_ ?_
        · intro k u g1 g2 g3 g4
          unfold rdT
          refine rqR_W (fun j g5 g6 => ?_) ⟨g1, g2⟩ (hB.2.2 k g1 g2)
          unfold lwS
          refine fo_congr _ _ _ (fun a b g7 g8 => ?_)
          have ta : T' 1 a = T 1 a := by rw [t1 a, if_neg (by omega)]
          unfold wkS
          simp only [ta]
        · rw [z3, xj 28 (by decide) (by decide)]
          unfold wqR
          rw [x25, x26, t01]
        · intro k g1 g2
          rw [z4 k, xc 9 (by decide)]
          unfold wqR
          rw [x25, x26, t01]
          simp only [g1, g2, true_and]
    · rw [if_neg c0, decide_eq_true_eq] at hc
      have es : stepT S (R 1 i) (R 2 i) T = waT (R 2 i) T := by
        unfold stepT
        rw [if_neg c1, if_neg c0]
      refine ⟨u3 M 0 26 (T 0 1 + R 2 i), ?_, ⟨fun c g1 g2 => u3_c g1, fun j g => u3_n (by omega)⟩, u3_n (by omega), ?_⟩
      · simp (disch := omega) only [b232_0, b232_42, b232_63, b232_64, b232_68, b232_72, e232, gO_M hM, gR_M0 hM, gR_M1 hM, gR_M11 hM, gR_M13 hM, gR_M14 hM, gR_M15 hM, gR_M16 hM, gR_M17 hM, gR_M22 hM, gR_M32 hM, gR_M33 hM, gR_M34 hM, gR_M35 hM, gR_M36 hM, gR_M37 hM, gR_M38 hM, gR_M41 hM, gR_M42 hM, gR_M43 hM, gR_M45 hM, gR_M46 hM, gR_M47 hM, gR_M50 hM, gR_M51 hM, gR_M52 hM, al_M1 hM, al_M2 hM, al_M3 hM, al_M4 hM, al_M5 hM, al_M6 hM, al_M7 hM, al_M8 hM, al_M9 hM, al_M10 hM, al_M11 hM, al_M12 hM, al_M13 hM, al_M14 hM, al_M15 hM, al_M16 hM, al_M17 hM, al_M18 hM, al_M19 hM, al_M20 hM, al_M21 hM, al_M22 hM, al_M23 hM, al_M24 hM, al_M25 hM, rd_M1 hM, rd_M2 hM, rd_M3 hM, rd_M4 hM, rd_M5 hM, rd_M6 hM, rd_M7 hM, rd_M8 hM, rd_M9 hM, rd_M10 hM, rd_M11 hM, rd_M12 hM, rd_M13 hM, rd_M14 hM, rd_M15 hM, rd_M16 hM, rd_M17 hM, rd_M18 hM, rd_M19 hM, rd_M20 hM, rd_M21 hM, rd_M22 hM, rd_M23 hM, rd_M24 hM, rd_M25 hM, gP_M hM hl, wr_M1 hM hl, wr_M2 hM hl, wr_M3 hM hl, wr_M4 hM hl, wr_M5 hM hl, wr_M6 hM hl, wr_M7 hM hl, wr_M8 hM hl, wr_M9 hM hl, wr_M10 hM hl, wr_M11 hM hl, wr_M12 hM hl, wr_M13 hM hl, wr_M14 hM hl, wr_M15 hM hl, wr_M16 hM hl, wr_M17 hM hl, wr_M18 hM hl, wr_M19 hM hl, wr_M20 hM hl, wr_M21 hM hl, wr_M22 hM hl, wr_M23 hM hl, wr_M24 hM hl, wr_M25 hM hl, sB_0, sB_c, u3_sB0, u3_sB, u3_s, u3_n, Nat.reduceLT, e3, e4, c0, c1, p1.1, p1.2, Jl0, Jl1, Jl2, Jl3, Jl4, Jl5, Jl6, Jl7, Jl8, Jl9, Jl10, Jl11, Jl12, Jl13, Jl14, Jl15, Jl16, Jl17, Jl18, Jl19, Jl20, Jl22, Jl24, Jl28, Jl30, Jl31, Jl32, Jl35, Jl36, Jl37, Jl38, Jl39, Jl40, Jl48, Jl57, Jl59, Jl60, Jl61, Jl63, Jl64, Jl68, Jl69, Jl96, Jl97, Jl98, Jl99, Jl100, Jl122, Jl149, Jl150, Jl165, Jl255, Jl511, Jl512, Jl600, Jl610, Jl940, Jl968, Jl999, Jl1134, Jl1152, Jl2048, Jl4608, Jl9999, Jl99999, Jl100000, Jl147456, Jl12345, Jl1103515245, Jl100000000, Jlm1, Jlm2, J_add, J_sub, J_mul, J_lt, J_le, J_eq, J_ite, J_cl, ri_j, wi_j, b2i_z, b2i_o, b2i_zo, Int.cast_ofNat_Int, Int.natCast_zero, Int.natCast_one, if_true, if_false, ite_self, Int.le_refl, J_bit, J_or, J_neg, J_oN, Int.reduceEq, Int.reduceLT, Int.reduceLE, Int.reduceNeg, Int.reduceAdd, Int.reduceSub, Int.reduceMul, Int.reduceToNat, J_shl, J_shr, V_ite, true_or, or_true, nz_j, J_div, J_rem, Option.bind_some, Option.toList_some, Option.toList_none, List.cons_append, List.nil_append]
      · have t1 : u3 (waT (R 2 i) T) 0 2 (i + 1) 1 = T 1 := by funext x; unfold waT; simp [u3]
        rw [es, rdT_c t1]
        exact RN_wa (un := T 0 1 + R 2 i) hN (by unfold waT; simp [u3]) (by unfold waT; simp [u3]) t1 (by funext x; unfold waT; simp [u3]) (by funext x; unfold waT; simp [u3]) (fun c g => u3_c g) (fun j g => u3_n (by omega)) u3_s
theorem runs_sp (hd : 9 ≤ d) (hM : ShM μ m) (hl : lo ≤ m) (hR : RS M S) (hV : SV S) (hL : M 0 31 = 1 → RL M L) (hLV : LV L) (hQ : RQ M R) (hRV : RV R) (hB : RB M S) (h31 : M 0 31 = 0 ∨ M 0 31 = 1) (hx : 0 ≤ x ∧ x < 2147483648) : ∃ M', cl E lo d 233 [.ref m, .int (J (x))] (mj μ (sB I m 26 M)) = some (none, mj μ (sB I m 26 M')) ∧ FrN M M' ∧ M' 0 29 = wlS S R T x 0 2 ∧ RN S L (rdT S (M 0 19) (M 0 20) (M 0 21) (M 6) (wlS S R T x)) (wlS S R T x) M' := by
  obtain ⟨d, rfl⟩ : ∃ e, d = e + 1 := ⟨d - 1, by omega⟩
  have v := hV.1
  have vr := hRV.1
  obtain ⟨Mb, eb, b1, b2, b3, b4⟩ := beg_sp (E := E) (lo := lo) (d := d) (I := I) (by omega) hM hl hQ hRV
  have fb : FrN M Mb := ⟨fun c g1 g2 => b1 c g1 (by omega) (by omega) (by omega) (by omega), b2⟩
  have hN0 : RN S L (rdT S (M 0 19) (M 0 20) (M 0 21) (M 6) (t0S R T)) (t0S R T) Mb := RN_0 hV hRV b3 b4
  have hst : ∀ x', cl E lo (d + 1) 233 [.ref m, .int (J x')] (mj μ (sB I m 26 M)) = ex PG E lo d 233 4 [some (.ref m), some (.int (J (x')))] [] (mj μ (sB I m 26 Mb)) := by
    intro x'
    simp (disch := omega) only [b233_0, e233, gO_M hM, gR_M0 hM, gR_M1 hM, gR_M11 hM, gR_M13 hM, gR_M14 hM, gR_M15 hM, gR_M16 hM, gR_M17 hM, gR_M22 hM, gR_M32 hM, gR_M33 hM, gR_M34 hM, gR_M35 hM, gR_M36 hM, gR_M37 hM, gR_M38 hM, gR_M41 hM, gR_M42 hM, gR_M43 hM, gR_M45 hM, gR_M46 hM, gR_M47 hM, gR_M50 hM, gR_M51 hM, gR_M52 hM, al_M1 hM, al_M2 hM, al_M3 hM, al_M4 hM, al_M5 hM, al_M6 hM, al_M7 hM, al_M8 hM, al_M9 hM, al_M10 hM, al_M11 hM, al_M12 hM, al_M13 hM, al_M14 hM, al_M15 hM, al_M16 hM, al_M17 hM, al_M18 hM, al_M19 hM, al_M20 hM, al_M21 hM, al_M22 hM, al_M23 hM, al_M24 hM, al_M25 hM, rd_M1 hM, rd_M2 hM, rd_M3 hM, rd_M4 hM, rd_M5 hM, rd_M6 hM, rd_M7 hM, rd_M8 hM, rd_M9 hM, rd_M10 hM, rd_M11 hM, rd_M12 hM, rd_M13 hM, rd_M14 hM, rd_M15 hM, rd_M16 hM, rd_M17 hM, rd_M18 hM, rd_M19 hM, rd_M20 hM, rd_M21 hM, rd_M22 hM, rd_M23 hM, rd_M24 hM, rd_M25 hM, eb, Jl0, Jl1, Jl2, Jl3, Jl4, Jl5, Jl6, Jl7, Jl8, Jl9, Jl10, Jl11, Jl12, Jl13, Jl14, Jl15, Jl16, Jl17, Jl18, Jl19, Jl20, Jl22, Jl24, Jl28, Jl30, Jl31, Jl32, Jl35, Jl36, Jl37, Jl38, Jl39, Jl40, Jl48, Jl57, Jl59, Jl60, Jl61, Jl63, Jl64, Jl68, Jl69, Jl96, Jl97, Jl98, Jl99, Jl100, Jl122, Jl149, Jl150, Jl165, Jl255, Jl511, Jl512, Jl600, Jl610, Jl940, Jl968, Jl999, Jl1134, Jl1152, Jl2048, Jl4608, Jl9999, Jl99999, Jl100000, Jl147456, Jl12345, Jl1103515245, Jl100000000, Jlm1, Jlm2, J_add, J_sub, J_mul, J_lt, J_le, J_eq, J_ite, J_cl, ri_j, wi_j, b2i_z, b2i_o, b2i_zo, Int.cast_ofNat_Int, Int.natCast_zero, Int.natCast_one, if_true, if_false, ite_self, Int.le_refl, J_bit, J_or, J_neg, J_oN, Int.reduceEq, Int.reduceLT, Int.reduceLE, Int.reduceNeg, Int.reduceAdd, Int.reduceSub, Int.reduceMul, Int.reduceToNat, J_shl, J_shr, V_ite, true_or, or_true, nz_j, J_div, J_rem, Option.bind_some, Option.toList_some, Option.toList_none, List.cons_append, List.nil_append]
  rw [hst]
  have qb := fb.Q hQ
  have t02 : t0S R T 0 2 = 0 := by unfold t0S clT; simp [u3, sA]
  unfold wlS
  by_cases hh : 0 ≤ R 0 0 ∧ R 0 0 < S 0 0
  · rw [if_pos hh]
    have hn : 0 ≤ mnS R x ∧ mnS R x ≤ R 0 2 ∧ mnS R x ≤ x := by
      unfold mnS
      split <;> omega
    have hWa := fun i hi => TW_all (T := t0S R T) (m := mnS R x) (i := i) hV hRV ⟨hn.1, hn.2.1⟩ (TW_0 hRV hh.2) hi
    obtain ⟨s1, s2, s3, s4⟩ := spS_sp (S := S) (R := R) (T := t0S R T) hn.1
    obtain ⟨M', e, fM, e29, hN⟩ := loop (fun i M' => ex PG E lo d 233 4 [some (.ref m), some (.int (J (x)))] [] (mj μ (sB I m 26 M'))) (fun i M' => FrN M M' ∧ M' 0 29 = i ∧ RN S L (rdT S (M 0 19) (M 0 20) (M 0 21) (M 6) (twS S R (t0S R T) i)) (twS S R (t0S R T) i) M') (a := 0) (n := spS S R (t0S R T) (mnS R x)) (fun i M' f1 f2 hP => by
      obtain ⟨fM, e29, hN⟩ := hP
      have hWi := hWa i (by omega)
      have w1 := hWi.1
      have c1 := s3 i f1 f2
      unfold cnS at c1
      have hR' := fM.S hR
      have hQ' := fM.Q hQ
      have hB' := fM.B hB
      have e31 : M' 0 31 = M 0 31 := fM.2 31 (by decide)
      have n1 := hN.1
      rw [← fM.2 19 (by decide), ← fM.2 20 (by decide), ← fM.2 21 (by decide), ← fM.1 6 (by decide) (by decide)] at hN
      obtain ⟨M2, e2, f2', e292, hN2⟩ := dos_sp (E := E) (lo := lo) (d := d) (I := I) (i := i) (by omega) hM hl hR' hV (fun q => fM.L (hL (by rw [← e31]; exact q))) hLV hQ' hRV hB' (by rw [e31]; exact h31) (by omega) hWi hN c1
      have hcan := can_sp (E := E) (lo := lo) (d := d) (I := I) (i := i) (by omega) hM hR' hV hQ' hRV (by omega) (by omega) (by omega)
      rw [n1.1, n1.2, c1, decide_eq_true (show twS S R (t0S R T) i 0 0 < S 0 0 by omega)] at hcan
      have es : twS S R (t0S R T) (i + 1) = u3 (stepT S (R 1 i) (R 2 i) (twS S R (t0S R T) i)) 0 2 (i + 1) := fo_s _ _ f1
      have q2 := hQ'.2.1
      have q1 := hQ'.1
      refine ⟨u3 M2 0 29 (i + 1), ?_, ⟨fun c g1 g2 => ?_, fun j g => ?_⟩, u3_s, ?_⟩
      · rw [b233_4]
        simp (disch := omega) only [b233_12, b233_28, b233_36, b233_39, b233_47, b233_57, gO_M hM, gR_M0 hM, gR_M1 hM, gR_M11 hM, gR_M13 hM, gR_M14 hM, gR_M15 hM, gR_M16 hM, gR_M17 hM, gR_M22 hM, gR_M32 hM, gR_M33 hM, gR_M34 hM, gR_M35 hM, gR_M36 hM, gR_M37 hM, gR_M38 hM, gR_M41 hM, gR_M42 hM, gR_M43 hM, gR_M45 hM, gR_M46 hM, gR_M47 hM, gR_M50 hM, gR_M51 hM, gR_M52 hM, al_M1 hM, al_M2 hM, al_M3 hM, al_M4 hM, al_M5 hM, al_M6 hM, al_M7 hM, al_M8 hM, al_M9 hM, al_M10 hM, al_M11 hM, al_M12 hM, al_M13 hM, al_M14 hM, al_M15 hM, al_M16 hM, al_M17 hM, al_M18 hM, al_M19 hM, al_M20 hM, al_M21 hM, al_M22 hM, al_M23 hM, al_M24 hM, al_M25 hM, rd_M1 hM, rd_M2 hM, rd_M3 hM, rd_M4 hM, rd_M5 hM, rd_M6 hM, rd_M7 hM, rd_M8 hM, rd_M9 hM, rd_M10 hM, rd_M11 hM, rd_M12 hM, rd_M13 hM, rd_M14 hM, rd_M15 hM, rd_M16 hM, rd_M17 hM, rd_M18 hM, rd_M19 hM, rd_M20 hM, rd_M21 hM, rd_M22 hM, rd_M23 hM, rd_M24 hM, rd_M25 hM, gP_M hM hl, wr_M1 hM hl, wr_M2 hM hl, wr_M3 hM hl, wr_M4 hM hl, wr_M5 hM hl, wr_M6 hM hl, wr_M7 hM hl, wr_M8 hM hl, wr_M9 hM hl, wr_M10 hM hl, wr_M11 hM hl, wr_M12 hM hl, wr_M13 hM hl, wr_M14 hM hl, wr_M15 hM hl, wr_M16 hM hl, wr_M17 hM hl, wr_M18 hM hl, wr_M19 hM hl, wr_M20 hM hl, wr_M21 hM hl, wr_M22 hM hl, wr_M23 hM hl, wr_M24 hM hl, wr_M25 hM hl, sB_0, sB_c, u3_sB0, u3_sB, u3_s, u3_n, Nat.reduceLT, e29, q2.1, hcan, Bool.and_self, b2i_t, e2, e292, Jl0, Jl1, Jl2, Jl3, Jl4, Jl5, Jl6, Jl7, Jl8, Jl9, Jl10, Jl11, Jl12, Jl13, Jl14, Jl15, Jl16, Jl17, Jl18, Jl19, Jl20, Jl22, Jl24, Jl28, Jl30, Jl31, Jl32, Jl35, Jl36, Jl37, Jl38, Jl39, Jl40, Jl48, Jl57, Jl59, Jl60, Jl61, Jl63, Jl64, Jl68, Jl69, Jl96, Jl97, Jl98, Jl99, Jl100, Jl122, Jl149, Jl150, Jl165, Jl255, Jl511, Jl512, Jl600, Jl610, Jl940, Jl968, Jl999, Jl1134, Jl1152, Jl2048, Jl4608, Jl9999, Jl99999, Jl100000, Jl147456, Jl12345, Jl1103515245, Jl100000000, Jlm1, Jlm2, J_add, J_sub, J_mul, J_lt, J_le, J_eq, J_ite, J_cl, ri_j, wi_j, b2i_z, b2i_o, b2i_zo, Int.cast_ofNat_Int, Int.natCast_zero, Int.natCast_one, if_true, if_false, ite_self, Int.le_refl, J_bit, J_or, J_neg, J_oN, Int.reduceEq, Int.reduceLT, Int.reduceLE, Int.reduceNeg, Int.reduceAdd, Int.reduceSub, Int.reduceMul, Int.reduceToNat, J_shl, J_shr, V_ite, true_or, or_true, nz_j, J_div, J_rem, Option.bind_some, Option.toList_some, Option.toList_none, List.cons_append, List.nil_append]
        repeat (first | rw [if_neg (by omega)] | rw [if_pos (by omega)])
      · rw [u3_c g1, f2'.1 c g1 g2, fM.1 c g1 g2]
      · rw [u3_n (by omega), f2'.2 j g, fM.2 j g]
      · rw [es, ← fM.2 19 (by decide), ← fM.2 20 (by decide), ← fM.2 21 (by decide), ← fM.1 6 (by decide) (by decide)]
        exact hN2.fr (fun j g => u3_n (by omega)) (fun c g => u3_c g)) s1 Mb ⟨fb, b3.2.2.2.2.1, hN0⟩
    refine ⟨M', ?_, fM, ?_, hN⟩
    · rw [e, b233_4]
      have hQ' := fM.Q hQ
      have hR' := fM.S hR
      have q2 := hQ'.2.1
      have q1 := hQ'.1
      have n1 := hN.1
      have hWi := hWa _ ⟨s1, Int.le_refl _⟩
      have w1 := hWi.1
      by_cases hlt : spS S R (t0S R T) (mnS R x) < mnS R x
      · have c1 := s4 hlt
        unfold cnS at c1
        have hcan := can_sp (E := E) (lo := lo) (d := d) (I := I) (i := spS S R (t0S R T) (mnS R x)) (by omega) hM hR' hV hQ' hRV (by omega) (by omega) (by omega)
        rw [n1.1, n1.2, c1, Bool.and_false] at hcan
        simp (disch := omega) only [b233_12, b233_28, b233_36, b233_60, gO_M hM, gR_M0 hM, gR_M1 hM, gR_M11 hM, gR_M13 hM, gR_M14 hM, gR_M15 hM, gR_M16 hM, gR_M17 hM, gR_M22 hM, gR_M32 hM, gR_M33 hM, gR_M34 hM, gR_M35 hM, gR_M36 hM, gR_M37 hM, gR_M38 hM, gR_M41 hM, gR_M42 hM, gR_M43 hM, gR_M45 hM, gR_M46 hM, gR_M47 hM, gR_M50 hM, gR_M51 hM, gR_M52 hM, al_M1 hM, al_M2 hM, al_M3 hM, al_M4 hM, al_M5 hM, al_M6 hM, al_M7 hM, al_M8 hM, al_M9 hM, al_M10 hM, al_M11 hM, al_M12 hM, al_M13 hM, al_M14 hM, al_M15 hM, al_M16 hM, al_M17 hM, al_M18 hM, al_M19 hM, al_M20 hM, al_M21 hM, al_M22 hM, al_M23 hM, al_M24 hM, al_M25 hM, rd_M1 hM, rd_M2 hM, rd_M3 hM, rd_M4 hM, rd_M5 hM, rd_M6 hM, rd_M7 hM, rd_M8 hM, rd_M9 hM, rd_M10 hM, rd_M11 hM, rd_M12 hM, rd_M13 hM, rd_M14 hM, rd_M15 hM, rd_M16 hM, rd_M17 hM, rd_M18 hM, rd_M19 hM, rd_M20 hM, rd_M21 hM, rd_M22 hM, rd_M23 hM, rd_M24 hM, rd_M25 hM, gP_M hM hl, wr_M1 hM hl, wr_M2 hM hl, wr_M3 hM hl, wr_M4 hM hl, wr_M5 hM hl, wr_M6 hM hl, wr_M7 hM hl, wr_M8 hM hl, wr_M9 hM hl, wr_M10 hM hl, wr_M11 hM hl, wr_M12 hM hl, wr_M13 hM hl, wr_M14 hM hl, wr_M15 hM hl, wr_M16 hM hl, wr_M17 hM hl, wr_M18 hM hl, wr_M19 hM hl, wr_M20 hM hl, wr_M21 hM hl, wr_M22 hM hl, wr_M23 hM hl, wr_M24 hM hl, wr_M25 hM hl, sB_0, sB_c, u3_sB0, u3_sB, u3_s, u3_n, Nat.reduceLT, e29, q2.1, hcan, b2i_f, Jl0, Jl1, Jl2, Jl3, Jl4, Jl5, Jl6, Jl7, Jl8, Jl9, Jl10, Jl11, Jl12, Jl13, Jl14, Jl15, Jl16, Jl17, Jl18, Jl19, Jl20, Jl22, Jl24, Jl28, Jl30, Jl31, Jl32, Jl35, Jl36, Jl37, Jl38, Jl39, Jl40, Jl48, Jl57, Jl59, Jl60, Jl61, Jl63, Jl64, Jl68, Jl69, Jl96, Jl97, Jl98, Jl99, Jl100, Jl122, Jl149, Jl150, Jl165, Jl255, Jl511, Jl512, Jl600, Jl610, Jl940, Jl968, Jl999, Jl1134, Jl1152, Jl2048, Jl4608, Jl9999, Jl99999, Jl100000, Jl147456, Jl12345, Jl1103515245, Jl100000000, Jlm1, Jlm2, J_add, J_sub, J_mul, J_lt, J_le, J_eq, J_ite, J_cl, ri_j, wi_j, b2i_z, b2i_o, b2i_zo, Int.cast_ofNat_Int, Int.natCast_zero, Int.natCast_one, if_true, if_false, ite_self, Int.le_refl, J_bit, J_or, J_neg, J_oN, Int.reduceEq, Int.reduceLT, Int.reduceLE, Int.reduceNeg, Int.reduceAdd, Int.reduceSub, Int.reduceMul, Int.reduceToNat, J_shl, J_shr, V_ite, true_or, or_true, nz_j, J_div, J_rem, Option.bind_some, Option.toList_some, Option.toList_none, List.cons_append, List.nil_append]
      · have : mnS R x = R 0 2 ∨ mnS R x = x := by
          unfold mnS
          split
          · exact Or.inl rfl
          · exact Or.inr rfl
        simp (disch := omega) only [b233_12, b233_60, gO_M hM, gR_M0 hM, gR_M1 hM, gR_M11 hM, gR_M13 hM, gR_M14 hM, gR_M15 hM, gR_M16 hM, gR_M17 hM, gR_M22 hM, gR_M32 hM, gR_M33 hM, gR_M34 hM, gR_M35 hM, gR_M36 hM, gR_M37 hM, gR_M38 hM, gR_M41 hM, gR_M42 hM, gR_M43 hM, gR_M45 hM, gR_M46 hM, gR_M47 hM, gR_M50 hM, gR_M51 hM, gR_M52 hM, al_M1 hM, al_M2 hM, al_M3 hM, al_M4 hM, al_M5 hM, al_M6 hM, al_M7 hM, al_M8 hM, al_M9 hM, al_M10 hM, al_M11 hM, al_M12 hM, al_M13 hM, al_M14 hM, al_M15 hM, al_M16 hM, al_M17 hM, al_M18 hM, al_M19 hM, al_M20 hM, al_M21 hM, al_M22 hM, al_M23 hM, al_M24 hM, al_M25 hM, rd_M1 hM, rd_M2 hM, rd_M3 hM, rd_M4 hM, rd_M5 hM, rd_M6 hM, rd_M7 hM, rd_M8 hM, rd_M9 hM, rd_M10 hM, rd_M11 hM, rd_M12 hM, rd_M13 hM, rd_M14 hM, rd_M15 hM, rd_M16 hM, rd_M17 hM, rd_M18 hM, rd_M19 hM, rd_M20 hM, rd_M21 hM, rd_M22 hM, rd_M23 hM, rd_M24 hM, rd_M25 hM, gP_M hM hl, wr_M1 hM hl, wr_M2 hM hl, wr_M3 hM hl, wr_M4 hM hl, wr_M5 hM hl, wr_M6 hM hl, wr_M7 hM hl, wr_M8 hM hl, wr_M9 hM hl, wr_M10 hM hl, wr_M11 hM hl, wr_M12 hM hl, wr_M13 hM hl, wr_M14 hM hl, wr_M15 hM hl, wr_M16 hM hl, wr_M17 hM hl, wr_M18 hM hl, wr_M19 hM hl, wr_M20 hM hl, wr_M21 hM hl, wr_M22 hM hl, wr_M23 hM hl, wr_M24 hM hl, wr_M25 hM hl, sB_0, sB_c, u3_sB0, u3_sB, u3_s, u3_n, Nat.reduceLT, e29, q2.1, Jl0, Jl1, Jl2, Jl3, Jl4, Jl5, Jl6, Jl7, Jl8, Jl9, Jl10, Jl11, Jl12, Jl13, Jl14, Jl15, Jl16, Jl17, Jl18, Jl19, Jl20, Jl22, Jl24, Jl28, Jl30, Jl31, Jl32, Jl35, Jl36, Jl37, Jl38, Jl39, Jl40, Jl48, Jl57, Jl59, Jl60, Jl61, Jl63, Jl64, Jl68, Jl69, Jl96, Jl97, Jl98, Jl99, Jl100, Jl122, Jl149, Jl150, Jl165, Jl255, Jl511, Jl512, Jl600, Jl610, Jl940, Jl968, Jl999, Jl1134, Jl1152, Jl2048, Jl4608, Jl9999, Jl99999, Jl100000, Jl147456, Jl12345, Jl1103515245, Jl100000000, Jlm1, Jlm2, J_add, J_sub, J_mul, J_lt, J_le, J_eq, J_ite, J_cl, ri_j, wi_j, b2i_z, b2i_o, b2i_zo, Int.cast_ofNat_Int, Int.natCast_zero, Int.natCast_one, if_true, if_false, ite_self, Int.le_refl, J_bit, J_or, J_neg, J_oN, Int.reduceEq, Int.reduceLT, Int.reduceLE, Int.reduceNeg, Int.reduceAdd, Int.reduceSub, Int.reduceMul, Int.reduceToNat, J_shl, J_shr, V_ite, true_or, or_true, nz_j, J_div, J_rem, Option.bind_some, Option.toList_some, Option.toList_none, List.cons_append, List.nil_append]
        by_cases c : x ≤ spS S R (t0S R T) (mnS R x)
        · rw [if_pos c]
        · rw [if_neg c, if_pos (by omega)]
    · rw [e29]
      by_cases c : spS S R (t0S R T) (mnS R x) = 0
      · rw [c]
        show (0 : Int) = twS S R (t0S R T) 0 0 2
        exact t02.symm
      · have es : twS S R (t0S R T) (spS S R (t0S R T) (mnS R x)) = u3 (stepT S (R 1 (spS S R (t0S R T) (mnS R x) - 1)) (R 2 (spS S R (t0S R T) (mnS R x) - 1)) (twS S R (t0S R T) (spS S R (t0S R T) (mnS R x) - 1))) 0 2 (spS S R (t0S R T) (mnS R x) - 1 + 1) := by
          conv => lhs; rw [show spS S R (t0S R T) (mnS R x) = spS S R (t0S R T) (mnS R x) - 1 + 1 by omega]
          exact fo_s _ _ (by omega)
        rw [es, u3_s]
        omega
  · rw [if_neg hh]
    refine ⟨Mb, ?_, fb, by rw [b3.2.2.2.2.1, t02], hN0⟩
    have hR' := fb.S hR
    have q2 := qb.2.1
    have q1 := qb.1
    rw [b233_4]
    by_cases c : 0 < R 0 2
    · have hcan := can_sp (E := E) (lo := lo) (d := d) (I := I) (i := 0) (by omega) hM hR' hV qb hRV (by omega) (by omega) (by omega)
      rw [b3.1, decide_eq_false (show ¬ R 0 0 < S 0 0 by omega), Bool.false_and] at hcan
      simp (disch := omega) only [b233_12, b233_28, b233_36, b233_60, gO_M hM, gR_M0 hM, gR_M1 hM, gR_M11 hM, gR_M13 hM, gR_M14 hM, gR_M15 hM, gR_M16 hM, gR_M17 hM, gR_M22 hM, gR_M32 hM, gR_M33 hM, gR_M34 hM, gR_M35 hM, gR_M36 hM, gR_M37 hM, gR_M38 hM, gR_M41 hM, gR_M42 hM, gR_M43 hM, gR_M45 hM, gR_M46 hM, gR_M47 hM, gR_M50 hM, gR_M51 hM, gR_M52 hM, al_M1 hM, al_M2 hM, al_M3 hM, al_M4 hM, al_M5 hM, al_M6 hM, al_M7 hM, al_M8 hM, al_M9 hM, al_M10 hM, al_M11 hM, al_M12 hM, al_M13 hM, al_M14 hM, al_M15 hM, al_M16 hM, al_M17 hM, al_M18 hM, al_M19 hM, al_M20 hM, al_M21 hM, al_M22 hM, al_M23 hM, al_M24 hM, al_M25 hM, rd_M1 hM, rd_M2 hM, rd_M3 hM, rd_M4 hM, rd_M5 hM, rd_M6 hM, rd_M7 hM, rd_M8 hM, rd_M9 hM, rd_M10 hM, rd_M11 hM, rd_M12 hM, rd_M13 hM, rd_M14 hM, rd_M15 hM, rd_M16 hM, rd_M17 hM, rd_M18 hM, rd_M19 hM, rd_M20 hM, rd_M21 hM, rd_M22 hM, rd_M23 hM, rd_M24 hM, rd_M25 hM, gP_M hM hl, wr_M1 hM hl, wr_M2 hM hl, wr_M3 hM hl, wr_M4 hM hl, wr_M5 hM hl, wr_M6 hM hl, wr_M7 hM hl, wr_M8 hM hl, wr_M9 hM hl, wr_M10 hM hl, wr_M11 hM hl, wr_M12 hM hl, wr_M13 hM hl, wr_M14 hM hl, wr_M15 hM hl, wr_M16 hM hl, wr_M17 hM hl, wr_M18 hM hl, wr_M19 hM hl, wr_M20 hM hl, wr_M21 hM hl, wr_M22 hM hl, wr_M23 hM hl, wr_M24 hM hl, wr_M25 hM hl, sB_0, sB_c, u3_sB0, u3_sB, u3_s, u3_n, Nat.reduceLT, b3.2.2.2.2.1, q2.1, hcan, b2i_f, Jl0, Jl1, Jl2, Jl3, Jl4, Jl5, Jl6, Jl7, Jl8, Jl9, Jl10, Jl11, Jl12, Jl13, Jl14, Jl15, Jl16, Jl17, Jl18, Jl19, Jl20, Jl22, Jl24, Jl28, Jl30, Jl31, Jl32, Jl35, Jl36, Jl37, Jl38, Jl39, Jl40, Jl48, Jl57, Jl59, Jl60, Jl61, Jl63, Jl64, Jl68, Jl69, Jl96, Jl97, Jl98, Jl99, Jl100, Jl122, Jl149, Jl150, Jl165, Jl255, Jl511, Jl512, Jl600, Jl610, Jl940, Jl968, Jl999, Jl1134, Jl1152, Jl2048, Jl4608, Jl9999, Jl99999, Jl100000, Jl147456, Jl12345, Jl1103515245, Jl100000000, Jlm1, Jlm2, J_add, J_sub, J_mul, J_lt, J_le, J_eq, J_ite, J_cl, ri_j, wi_j, b2i_z, b2i_o, b2i_zo, Int.cast_ofNat_Int, Int.natCast_zero, Int.natCast_one, if_true, if_false, ite_self, Int.le_refl, J_bit, J_or, J_neg, J_oN, Int.reduceEq, Int.reduceLT, Int.reduceLE, Int.reduceNeg, Int.reduceAdd, Int.reduceSub, Int.reduceMul, Int.reduceToNat, J_shl, J_shr, V_ite, true_or, or_true, nz_j, J_div, J_rem, Option.bind_some, Option.toList_some, Option.toList_none, List.cons_append, List.nil_append]
    · simp (disch := omega) only [b233_12, b233_60, gO_M hM, gR_M0 hM, gR_M1 hM, gR_M11 hM, gR_M13 hM, gR_M14 hM, gR_M15 hM, gR_M16 hM, gR_M17 hM, gR_M22 hM, gR_M32 hM, gR_M33 hM, gR_M34 hM, gR_M35 hM, gR_M36 hM, gR_M37 hM, gR_M38 hM, gR_M41 hM, gR_M42 hM, gR_M43 hM, gR_M45 hM, gR_M46 hM, gR_M47 hM, gR_M50 hM, gR_M51 hM, gR_M52 hM, al_M1 hM, al_M2 hM, al_M3 hM, al_M4 hM, al_M5 hM, al_M6 hM, al_M7 hM, al_M8 hM, al_M9 hM, al_M10 hM, al_M11 hM, al_M12 hM, al_M13 hM, al_M14 hM, al_M15 hM, al_M16 hM, al_M17 hM, al_M18 hM, al_M19 hM, al_M20 hM, al_M21 hM, al_M22 hM, al_M23 hM, al_M24 hM, al_M25 hM, rd_M1 hM, rd_M2 hM, rd_M3 hM, rd_M4 hM, rd_M5 hM, rd_M6 hM, rd_M7 hM, rd_M8 hM, rd_M9 hM, rd_M10 hM, rd_M11 hM, rd_M12 hM, rd_M13 hM, rd_M14 hM, rd_M15 hM, rd_M16 hM, rd_M17 hM, rd_M18 hM, rd_M19 hM, rd_M20 hM, rd_M21 hM, rd_M22 hM, rd_M23 hM, rd_M24 hM, rd_M25 hM, gP_M hM hl, wr_M1 hM hl, wr_M2 hM hl, wr_M3 hM hl, wr_M4 hM hl, wr_M5 hM hl, wr_M6 hM hl, wr_M7 hM hl, wr_M8 hM hl, wr_M9 hM hl, wr_M10 hM hl, wr_M11 hM hl, wr_M12 hM hl, wr_M13 hM hl, wr_M14 hM hl, wr_M15 hM hl, wr_M16 hM hl, wr_M17 hM hl, wr_M18 hM hl, wr_M19 hM hl, wr_M20 hM hl, wr_M21 hM hl, wr_M22 hM hl, wr_M23 hM hl, wr_M24 hM hl, wr_M25 hM hl, sB_0, sB_c, u3_sB0, u3_sB, u3_s, u3_n, Nat.reduceLT, b3.2.2.2.2.1, q2.1, Jl0, Jl1, Jl2, Jl3, Jl4, Jl5, Jl6, Jl7, Jl8, Jl9, Jl10, Jl11, Jl12, Jl13, Jl14, Jl15, Jl16, Jl17, Jl18, Jl19, Jl20, Jl22, Jl24, Jl28, Jl30, Jl31, Jl32, Jl35, Jl36, Jl37, Jl38, Jl39, Jl40, Jl48, Jl57, Jl59, Jl60, Jl61, Jl63, Jl64, Jl68, Jl69, Jl96, Jl97, Jl98, Jl99, Jl100, Jl122, Jl149, Jl150, Jl165, Jl255, Jl511, Jl512, Jl600, Jl610, Jl940, Jl968, Jl999, Jl1134, Jl1152, Jl2048, Jl4608, Jl9999, Jl99999, Jl100000, Jl147456, Jl12345, Jl1103515245, Jl100000000, Jlm1, Jlm2, J_add, J_sub, J_mul, J_lt, J_le, J_eq, J_ite, J_cl, ri_j, wi_j, b2i_z, b2i_o, b2i_zo, Int.cast_ofNat_Int, Int.natCast_zero, Int.natCast_one, if_true, if_false, ite_self, Int.le_refl, J_bit, J_or, J_neg, J_oN, Int.reduceEq, Int.reduceLT, Int.reduceLE, Int.reduceNeg, Int.reduceAdd, Int.reduceSub, Int.reduceMul, Int.reduceToNat, J_shl, J_shr, V_ite, true_or, or_true, nz_j, J_div, J_rem, Option.bind_some, Option.toList_some, Option.toList_none, List.cons_append, List.nil_append]
      by_cases c : x ≤ 0
      · rw [if_pos c]
      · rw [if_neg c, if_pos (by omega)]
end REF
