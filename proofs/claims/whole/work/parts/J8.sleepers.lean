/-! WHAT A SLEEPER'S LINE DOES, in the reference -/
section OUT
variable {B : Int → Int} {n w wE ln : Int} {M M' MM S S' : Nat → Int → Int} {q q' : Int × Int} {hb sb : Int}
theorem st_s (hl : 3 ≤ ln ∧ ln ≤ 6) (h : OKs B n M w q) (hs : SfS M) (ht : tT B n w = 3) (hw : wdC B w (tE B n w) = ln + 1) (hc : q.1 = 0 → CSt M S hb sb) : StO B n M S hb sb w ln q := by
  obtain ⟨k1, k2⟩ := OKs_tk (x := 1) (y := 10) h ⟨ht, by omega, by omega⟩
  have hl4 : ln = 3 ∨ ln = 4 ∨ ln = 5 ∨ ln = 6 := by omega
  have hn : nOf ln = 6 := by rcases hl4 with e | e | e | e <;> rw [e] <;> rfl
  have I0 : Inn B n (lnW B n (nOf ln) (nx B n w)) (tkM M 1 10) 6 (nx B n w) q := Or.inl ⟨k1, by rw [hn]⟩
  obtain ⟨M1, hM1⟩ : ∃ M1, M1 = tkM M 1 10 := ⟨_, rfl⟩
  have h4 : M 0 4 = w := h.2.1.2.2.2.1
  have e : strM M = slM M1 w (ln - 3) := by
    unfold strM
    rw [k2, hw, if_neg (by omega), if_neg (by omega), if_neg (by omega), if_neg (by omega), if_neg (by omega), if_neg (by omega), if_neg (by omega), hM1, h4, show ln + 1 - 4 = ln - 3 by omega]
  have t3 : M1 3 = M 3 := by rw [hM1, tkM_c (by omega)]
  have t9 : ∀ j, 9 ≤ j → M1 0 j = M 0 j := fun j hj => by rw [hM1, tkM_9 j hj]
  have tF : FrT M M1 := by rw [hM1]; exact FrT_tk
  have wn1 := nx_n (B := B) h.2.1.2.1
  have wn2 := wn1.2.2 (tT_3 ht).1
  have i0 := h.1.1.1.1
  have n0 := h.2.1.1.1
  have wp : i32 w := by
    have := h.2.1.2.1
    unfold i32
    omega
  rw [← hM1] at I0
  obtain ⟨full, hfu⟩ : ∃ b, b = decide (9 ≤ M1 3 2) := ⟨_, rfl⟩
  have eF : fulS M ln = full := by
    rw [hfu, t3]
    unfold fulS
    apply decide_eq_decide.mpr
    omega
  have J0 := Inn_ful (full := full) wp h.2.2.2.2.2 wn2 I0
  obtain ⟨M2, hM2⟩ : ∃ M2, M2 = fulM M1 full w := ⟨_, rfl⟩
  rw [← hM2] at J0
  have eX1 : htM M2 = sl1 M1 w := by unfold sl1; rw [hM2, hfu]
  obtain ⟨V, hV⟩ : ∃ V, V = vv B n (nx B n w) := ⟨_, rfl⟩
  have v0 : V 0 = nv B n (wn B n (nx B n w) 0) := by rw [hV]; rfl
  have v1 : V 1 = nv B n (wn B n (nx B n w) 1) := by rw [hV]; rfl
  have v2 : V 2 = nv B n (wn B n (nx B n w) 2) := by rw [hV]; rfl
  have v3 : V 3 = nv B n (wn B n (nx B n w) 3) := by rw [hV]; rfl
  have v4 : V 4 = nv B n (wn B n (nx B n w) 4) := by rw [hV]; rfl
  have v5 : V 5 = nv B n (wn B n (nx B n w) 5) := by rw [hV]; rfl
  have c0 : (cbQ ln 0 V = true) = (0 ≤ V 0 ∧ V 0 ≤ 7) := by rcases hl4 with e | e | e | e <;> rw [e] <;> exact cb_i rfl rfl (by omega) (by omega)
  have c1 : (cbQ ln 1 V = true) = (0 ≤ V 1 ∧ V 1 ≤ 3) := by rcases hl4 with e | e | e | e <;> rw [e] <;> exact cb_i rfl rfl (by omega) (by omega)
  have c2 : (cbQ ln 2 V = true) = (0 ≤ V 2 ∧ V 2 ≤ 35) := by rcases hl4 with e | e | e | e <;> rw [e] <;> exact cb_i rfl rfl (by omega) (by omega)
  have c3 : (cbQ ln 3 V = true) = ((1 ≤ V 3 ∧ V 3 ≤ 36) ∧ V 2 < V 3) := by rcases hl4 with e | e | e | e <;> rw [e] <;> exact cb_3 rfl rfl (by omega)
  have c4 : (cbQ ln 4 V = true) = (1 ≤ V 4 ∧ V 4 ≤ 9) := by rcases hl4 with e | e | e | e <;> rw [e] <;> exact cb_i rfl rfl (by omega) (by omega)
  have c5 : (cbQ ln 5 V = true) = (0 ≤ V 5 ∧ V 5 ≤ 60) := by rcases hl4 with e | e | e | e <;> rw [e] <;> exact cb_i rfl rfl (by omega) (by omega)
  obtain ⟨Q0, hQ0⟩ : ∃ Q, Q = fq q full w := ⟨_, rfl⟩
  obtain ⟨Q1, hQ1⟩ : ∃ Q, Q = cq (cbQ ln 0 V) Q0 (wn B n (nx B n w) 0) := ⟨_, rfl⟩
  obtain ⟨Q2, hQ2⟩ : ∃ Q, Q = cq (cbQ ln 1 V) Q1 (wn B n (nx B n w) 1) := ⟨_, rfl⟩
  obtain ⟨Q3, hQ3⟩ : ∃ Q, Q = cq (cbQ ln 2 V) Q2 (wn B n (nx B n w) 2) := ⟨_, rfl⟩
  obtain ⟨Q4, hQ4⟩ : ∃ Q, Q = cq (cbQ ln 3 V) Q3 (wn B n (nx B n w) 3) := ⟨_, rfl⟩
  obtain ⟨Q5, hQ5⟩ : ∃ Q, Q = cq (cbQ ln 4 V) Q4 (wn B n (nx B n w) 4) := ⟨_, rfl⟩
  obtain ⟨Q6, hQ6⟩ : ∃ Q, Q = cq (cbQ ln 5 V) Q5 (wn B n (nx B n w) 5) := ⟨_, rfl⟩
  have eQ : lnQ B n w ln (fulS M ln) q = Q6 := by
    rw [eF, hQ6, hQ5, hQ4, hQ3, hQ2, hQ1, hQ0, hV]
    unfold lnQ
    rw [hn]
    rfl
  have n0' : nq B n Q0 0 7 (wn B n (nx B n w) 0) = Q1 := by rw [hQ1]; exact nq_cq (fun _ => by rw [c0, v0])
  have n1' : nq B n Q1 0 3 (wn B n (nx B n w) 1) = Q2 := by rw [hQ2]; exact nq_cq (fun _ => by rw [c1, v1])
  have n2' : nq B n Q2 0 35 (wn B n (nx B n w) 2) = Q3 := by rw [hQ3]; exact nq_cq (fun _ => by rw [c2, v2])
  have n4' : ∀ p, nq B n p 1 9 (wn B n (nx B n w) 4) = cq (cbQ ln 4 V) p (wn B n (nx B n w) 4) := fun p => nq_cq (fun _ => by rw [c4, v4])
  have n5' : ∀ p, nq B n p 0 60 (wn B n (nx B n w) 5) = cq (cbQ ln 5 V) p (wn B n (nx B n w) 5) := fun p => nq_cq (fun _ => by rw [c5, v5])
  rw [← hQ0] at J0
  have P1 : Inn B n (lnW B n (nOf ln) (nx B n w)) (sl1 M1 w) 5 (wn B n (nx B n w) 1) Q1 := by
    have := Inn_ht J0
    rw [eX1] at this
    rw [← n0']
    exact this
  have P2 : Inn B n (lnW B n (nOf ln) (nx B n w)) (sl2 M1 w) 4 (wn B n (nx B n w) 2) Q2 := by
    rw [← n1']
    exact Inn_nm P1
  have P3 : Inn B n (lnW B n (nOf ln) (nx B n w)) (sl3 M1 w) 3 (wn B n (nx B n w) 3) Q3 := by
    rw [← n2']
    exact Inn_nm P2
  have P4 : Inn B n (lnW B n (nOf ln) (nx B n w)) (sl4 M1 w) 2 (wn B n (nx B n w) 4) (nq B n Q3 (slL M1 w + 1) 36 (wn B n (nx B n w) 3)) := Inn_nm P3
  have hL : lnW B n (nOf ln) (nx B n w) = none → Q3.1 = 0 → slL M1 w = V 2 ∧ 0 ≤ V 2 := fun hT z => by
    have z' := z
    rw [hQ3] at z'
    obtain ⟨a1, a2⟩ := cq_0 z'
    obtain ⟨b1, b2, b3⟩ := Inn_v (x := 0) (y := 35) P2 hT a1 (by rw [n2']; exact z)
    rw [v2]
    exact ⟨b1, b2⟩
  have n3' : lnW B n (nOf ln) (nx B n w) = none → nq B n Q3 (slL M1 w + 1) 36 (wn B n (nx B n w) 3) = Q4 := fun hT => by
    rw [hQ4]
    refine nq_cq (fun z => ?_)
    obtain ⟨a1, a2⟩ := hL hT z
    rw [c3, a1, ← v3]
    apply propext
    omega
  have P5 : Inn B n (lnW B n (nOf ln) (nx B n w)) (sl5 M1 w) 1 (wn B n (nx B n w) 5) (nq B n (nq B n Q3 (slL M1 w + 1) 36 (wn B n (nx B n w) 3)) 1 9 (wn B n (nx B n w) 4)) := Inn_nm P4
  have P6 : Inn B n (lnW B n (nOf ln) (nx B n w)) (sl6 M1 w) 0 (wn B n (nx B n w) 6) (nq B n (nq B n (nq B n Q3 (slL M1 w + 1) 36 (wn B n (nx B n w) 3)) 1 9 (wn B n (nx B n w) 4)) 0 60 (wn B n (nx B n w) 5)) := Inn_nm P5
  have hq6 : lnW B n (nOf ln) (nx B n w) = none → nq B n (nq B n (nq B n Q3 (slL M1 w + 1) 36 (wn B n (nx B n w) 3)) 1 9 (wn B n (nx B n w) 4)) 0 60 (wn B n (nx B n w) 5) = lnQ B n w ln (fulS M ln) q := fun hT => by
    rw [eQ, n3' hT, n4', ← hQ5, n5', ← hQ6]
  have r3 : sl6 M1 w 3 = M 3 := by rw [sl6_c (by omega), t3]
  have F6 : FrT M (sl6 M1 w) := by
    refine FrT_t tF (FrT_t (FrT_t ?_ FrT_ht) (FrT_t FrT_nm (FrT_t FrT_nm (FrT_t FrT_nm (FrT_t FrT_nm FrT_nm)))))
    exact FrT_ful
  have eD : slM M1 w (ln - 3) = if 9 ≤ M 3 2 then sl6 M1 w else sl7 (sl6 M1 w) (68 + 9 * M 3 2) (M 3 2 + 1) (ln - 3) (nmV M2 0 7) (nmV (sl1 M1 w) 0 3) (slL M1 w) (nmV (sl3 M1 w) (slL M1 w + 1) 36) (nmV (sl4 M1 w) 1 9) (nmV (sl5 M1 w) 0 60) := by
    unfold slM
    rw [← hfu, ← hM2, t3]
  have s32 := hs.1
  have i7 : ∀ (X : Nat → Int → Int) (k c mn a b l r s e : Int), Inn B n (lnW B n (nOf ln) (nx B n w)) X 0 (wn B n (nx B n w) 6) (nq B n (nq B n (nq B n Q3 (slL M1 w + 1) 36 (wn B n (nx B n w) 3)) 1 9 (wn B n (nx B n w) 4)) 0 60 (wn B n (nx B n w) 5)) → Inn B n (lnW B n (nOf ln) (nx B n w)) (sl7 X k c mn a b l r s e) 0 (wn B n (nx B n w) 6) (nq B n (nq B n (nq B n Q3 (slL M1 w + 1) 36 (wn B n (nx B n w) 3)) 1 9 (wn B n (nx B n w) 4)) 0 60 (wn B n (nx B n w) 5)) := fun X k c mn a b l r s e z => Inn_r (by decide) (Inn_r (by decide) (Inn_r (by decide) (Inn_r (by decide) (Inn_r (by decide) (Inn_r (by decide) (Inn_r (by decide) (Inn_r (by decide) z)))))))
  have f7 : ∀ (X : Nat → Int → Int) (k c mn a b l r s e : Int), FrT X (sl7 X k c mn a b l r s e) := fun X k c mn a b l r s e => FrT_t (FrT_u (by decide)) (FrT_t (FrT_u (by decide)) (FrT_t (FrT_u (by decide)) (FrT_t (FrT_u (by decide)) (FrT_t (FrT_u (by decide)) (FrT_t (FrT_u (by decide)) (FrT_t (FrT_u (by decide)) (FrT_u (by decide))))))))
  have r7 : ∀ (k c mn a b l r s e : Int), sl7 (sl6 M1 w) k c mn a b l r s e 3 = sl7 M k c mn a b l r s e 3 := fun k c mn a b l r s e => u3_row (u3_row (u3_row (u3_row (u3_row (u3_row (u3_row (u3_row r3)))))))
  refine st_asm (wE := wn B n (nx B n w) 6) e ?_ ?_ ?_ hq6 ?_ (fun hT h0 => ?_)
  · rw [eD]
    split
    · exact P6
    · exact i7 _ _ _ _ _ _ _ _ _ _ P6
  · rw [hn]; rfl
  · rw [eD]
    split
    · exact F6
    · exact FrT_t F6 (f7 _ _ _ _ _ _ _ _ _ _)
  · rw [eD]
    split
    · exact SfS_c r3 hs
    · refine SfS_c (r7 _ _ _ _ _ _ _ _ _) ?_
      unfold SfS sl7
      simp (disch := omega) only [u3_n, u3_s]
      have := hs.2.1
      have := hs.2.2
      omega
  · rw [eQ] at h0
    have z6 := h0
    rw [hQ6] at z6
    obtain ⟨z5, y5⟩ := cq_0 z6
    have z5' := z5
    rw [hQ5] at z5'
    obtain ⟨z4, y4⟩ := cq_0 z5'
    have z4' := z4
    rw [hQ4] at z4'
    obtain ⟨z3, y3⟩ := cq_0 z4'
    have z3' := z3
    rw [hQ3] at z3'
    obtain ⟨z2, y2⟩ := cq_0 z3'
    have z2' := z2
    rw [hQ2] at z2'
    obtain ⟨z1, y1⟩ := cq_0 z2'
    have z1' := z1
    rw [hQ1] at z1'
    obtain ⟨z0, y0⟩ := cq_0 z1'
    have z0' := z0
    rw [hQ0] at z0'
    obtain ⟨zz, yy⟩ := fq_0 z0'
    have nf : ¬ 9 ≤ M 3 2 := by
      rw [hfu, t3] at yy
      exact of_decide_eq_false yy
    rw [n3' hT] at P4 P5
    rw [n4', ← hQ5] at P5
    have a0 : nmV M2 0 7 = V 0 ∧ 0 ≤ V 0 ∧ V 0 ≤ 7 := by rw [v0]; exact Inn_v J0 hT z0 (by rw [n0']; exact z1)
    have a1 : nmV (sl1 M1 w) 0 3 = V 1 ∧ 0 ≤ V 1 ∧ V 1 ≤ 3 := by rw [v1]; exact Inn_v P1 hT z1 (by rw [n1']; exact z2)
    have a2 : slL M1 w = V 2 ∧ 0 ≤ V 2 := hL hT z3
    have a3 : nmV (sl3 M1 w) (slL M1 w + 1) 36 = V 3 ∧ slL M1 w + 1 ≤ V 3 ∧ V 3 ≤ 36 := by rw [v3]; exact Inn_v P3 hT z3 (by rw [n3' hT]; exact z4)
    have a4 : nmV (sl4 M1 w) 1 9 = V 4 ∧ 1 ≤ V 4 ∧ V 4 ≤ 9 := by rw [v4]; exact Inn_v P4 hT z4 (by rw [n4', ← hQ5]; exact z5)
    have a5 : nmV (sl5 M1 w) 0 60 = V 5 ∧ 0 ≤ V 5 ∧ V 5 ≤ 60 := by rw [v5]; exact Inn_v P5 hT z5 (by rw [n5', ← hQ6]; exact h0)
    obtain ⟨⟨g0, g1, g2, g3⟩, g4, g5, g6, g7, g8, g9⟩ := hc zz
    have eS : tlS ln V S = u3 (u3 (u3 (u3 (u3 (u3 (u3 (u3 S 2 (S 0 3) (ln - 3)) 3 (S 0 3) (V 0)) 4 (S 0 3) (V 1)) 5 (S 0 3) (V 2)) 6 (S 0 3) (V 3)) 7 (S 0 3) (V 4)) 8 (S 0 3) (V 5)) 0 3 (S 0 3 + 1) := by
      unfold tlS
      rw [if_neg (by omega), if_neg (by omega), if_neg (by omega), if_neg (by omega), if_neg (by omega), if_neg (by omega)]
    have eH : tlH ln V hb = so hb (p2 (V 0)) := by unfold tlH; rw [if_neg (by omega)]; by_cases cc : 2 ≤ ln ∧ ln ≤ 6; rw [if_pos cc]; omega
    have eB : tlB ln V sb = sb := by unfold tlB; rw [if_neg (by omega), if_neg (by omega)]
    have d9 : sl6 M1 w 0 9 = (if V 0 ≤ M 0 9 then M 0 9 else V 0) ∧ sl6 M1 w 0 10 = M 0 10 := by
      unfold sl6 sl5 sl4 sl3 sl2
      rw [nmM_f.1 9 (by omega), nmM_f.1 9 (by omega), nmM_f.1 9 (by omega), nmM_f.1 9 (by omega), nmM_f.1 9 (by omega), nmM_f.1 10 (by omega), nmM_f.1 10 (by omega), nmM_f.1 10 (by omega), nmM_f.1 10 (by omega), nmM_f.1 10 (by omega), ← eX1, htM_9.1, htM_9.2, a0.1]
      have f : M2 0 = M1 0 := by rw [hM2, fulM_c (by decide)]
      rw [f, t9 9 (by omega), t9 10 (by omega)]
      exact ⟨rfl, rfl⟩
    have d7 : ∀ (k c mn a b l r s e : Int) (j : Int), sl7 (sl6 M1 w) k c mn a b l r s e 0 j = sl6 M1 w 0 j := fun k c mn a b l r s e j => by
      unfold sl7
      simp only [u3_c (show ¬ (0 : Nat) = 3 by decide)]
    rw [← hV]
    rw [eD, if_neg nf, a0.1, a1.1, a3.1, a4.1, a5.1, a2.1]
    unfold CSt
    rw [r7, d7, d7, d9.1, d9.2, eS, eH, eB]
    rw [g2] at s32 nf ⊢
    unfold sl7
    refine ⟨⟨?_, ?_, by rw [u3_s, u3_s], ?_⟩, fun i a b => ?_, fun k a b => ?_, fun k a b => ?_, fun v a b => ?_, Far_so g8 a0.2.1, g9⟩
    · simp (disch := omega) only [u3_n]; exact g0
    · simp (disch := omega) only [u3_n]; exact g1
    · simp (disch := omega) only [u3_n]; exact g3
    · simp (disch := omega) only [u3_n]; exact g4 i a b
    · rw [u3_s] at b
      by_cases ck : k = S 0 3
      · rw [ck]
        simp (disch := omega) only [u3_n, u3_s]
        exact ⟨trivial, trivial, trivial, trivial, trivial, trivial, trivial⟩
      · simp (disch := omega) only [u3_n]; exact g5 k a (by omega)
    · simp (disch := omega) only [u3_n]; exact g6 k a b
    · simp (disch := omega) only [u3_n] at b
      simp (disch := omega) only [u3_n]; exact g7 v a b
end OUT
