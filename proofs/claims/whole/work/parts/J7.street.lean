/-! WHAT A STREET'S LINE DOES, in the reference: cats, poppy, stand-ins, wine -/
section OUT
variable {B : Int → Int} {n w wE ln : Int} {M M' MM S S' : Nat → Int → Int} {q q' : Int × Int} {hb sb : Int}
theorem so_lt8 {s a : Int} (hs : 0 ≤ s ∧ s < 256) (ha : 0 ≤ a ∧ a ≤ 7) : 0 ≤ so s (p2 a) ∧ so s (p2 a) < 256 := by
  have e : p2 8 = 256 := by decide
  have h1 := p2_0 a
  have h2 := (p2_lt_iff (h := 8) ha.1 (by omega)).mpr (by omega)
  have := so_p2 (s := s) (t := p2 a) (k := 8) (by omega) (by omega)
  omega
theorem st_2 (h : OKs B n M w q) (hs : SfS M) (ht : tT B n w = 3) (hw : wdC B w (tE B n w) = 3) (hc : q.1 = 0 → CSt M S hb sb) : StO B n M S hb sb w 2 q := by
  obtain ⟨k1, k2⟩ := OKs_tk (x := 1) (y := 10) h ⟨ht, by omega, by omega⟩
  have I0 : Inn B n (lnW B n (nOf 2) (nx B n w)) (tkM M 1 10) 1 (nx B n w) q := Or.inl ⟨k1, rfl⟩
  have I1 := Inn_ht I0
  have I2 := Inn_r (c := 3) (x := 1) (v := so (M 3 1) (p2 (nmV (tkM M 1 10) 0 7))) (by decide) I1
  have e : strM M = u3 (htM (tkM M 1 10)) 3 1 (so (M 3 1) (p2 (nmV (tkM M 1 10) 0 7))) := by
    unfold strM
    rw [k2, hw, if_neg (by decide), if_neg (by decide), if_neg (by decide), if_pos rfl]
  have eF : fulS M 2 = false := decide_eq_false (by omega)
  have eQ : lnQ B n w 2 (fulS M 2) q = cq (cbQ 2 0 (vv B n (nx B n w))) q (nx B n w) := by
    rw [eF]
    show cq _ (fq q false w) _ = _
    rw [fq_f]
  have eN : nq B n q 0 7 (nx B n w) = cq (cbQ 2 0 (vv B n (nx B n w))) q (nx B n w) := nq_cq (fun _ => cb_i rfl rfl (by omega) (by omega))
  have e3 : ∀ c, 2 ≤ c → htM (tkM M 1 10) c = M c := fun c hc => by rw [htM_c hc, tkM_c hc]
  have b1 := nmV_b (M := tkM M 1 10) (x := 0) (y := 7) (by omega)
  have b2 := so_lt8 (s := M 3 1) ⟨hs.2.2.1, hs.2.2.2⟩ b1
  have r3 := u3_row (j := 1) (v := so (M 3 1) (p2 (nmV (tkM M 1 10) 0 7))) (e3 3 (by omega))
  refine st_asm e I2 rfl (FrT_t (FrT_t FrT_tk FrT_ht) (FrT_u (by decide))) (fun _ => by rw [eQ, eN]) ?_ (fun hT h0 => ?_)
  · unfold SfS
    rw [r3]
    simp (disch := omega) only [u3_n, u3_s]
    exact ⟨hs.1, hs.2.1, b2⟩
  · rw [eQ] at h0
    obtain ⟨q0, c0⟩ := cq_0 h0
    rw [← eN] at h0
    obtain ⟨v1, v2, v3⟩ := Inn_v I0 hT q0 h0
    obtain ⟨⟨g0, g1, g2, g3⟩, g4, g5, g6, g7, g8, g9⟩ := hc q0
    have eS : tlS 2 (vv B n (nx B n w)) S = u3 S 0 1 (so (S 0 1) (p2 (nv B n (nx B n w)))) := by
      unfold tlS
      rw [if_neg (by decide), if_neg (by decide), if_pos rfl]
      rfl
    have eH : tlH 2 (vv B n (nx B n w)) hb = so hb (p2 (nv B n (nx B n w))) := by
      unfold tlH
      rw [if_neg (by decide), if_pos (by decide)]
      rfl
    have eB : tlB 2 (vv B n (nx B n w)) sb = sb := by unfold tlB; rw [if_neg (by decide), if_neg (by decide)]
    have d9 := htM_9 (M := tkM M 1 10)
    rw [tkM_9 9 (by omega), tkM_9 10 (by omega), v1] at d9
    unfold CSt
    rw [r3, u3_c (by decide : ¬ (0 : Nat) = 3), d9.1, d9.2, eS, eH, eB, v1]
    refine ⟨⟨?_, by rw [u3_s, u3_s, g1], ?_, ?_⟩, fun i a b => ?_, fun k a b => ?_, fun k a b => ?_, fun v a b => ?_, Far_so g8 v2, g9⟩
    · simp (disch := omega) only [u3_n]; exact g0
    · simp (disch := omega) only [u3_n]; exact g2
    · simp (disch := omega) only [u3_n]; exact g3
    · simp (disch := omega) only [u3_n]; exact g4 i a b
    · simp (disch := omega) only [u3_n] at b ⊢; exact g5 k a b
    · simp (disch := omega) only [u3_n]; exact g6 k a b
    · simp (disch := omega) only [u3_n] at b ⊢; exact g7 v a b
theorem st_8 (h : OKs B n M w q) (hs : SfS M) (ht : tT B n w = 3) (hw : wdC B w (tE B n w) = 9) (hc : q.1 = 0 → CSt M S hb sb) : StO B n M S hb sb w 8 q := by
  obtain ⟨k1, k2⟩ := OKs_tk (x := 1) (y := 10) h ⟨ht, by omega, by omega⟩
  have I0 : Inn B n (lnW B n (nOf 8) (nx B n w)) (tkM M 1 10) 2 (nx B n w) q := Or.inl ⟨k1, rfl⟩
  have I1 := Inn_st I0
  have I2 := Inn_nm (x := 0) (y := 35) I1
  have I3 := Inn_r (c := 3) (x := 68 + 9 * nmV (tkM M 1 10) 0 8 + 7) (v := nmV (stM (tkM M 1 10)) 0 35) (by decide) I2
  have e : strM M = u3 (nmM (stM (tkM M 1 10)) 0 35) 3 (68 + 9 * nmV (tkM M 1 10) 0 8 + 7) (nmV (stM (tkM M 1 10)) 0 35) := by
    unfold strM
    rw [k2, hw, if_neg (by decide), if_neg (by decide), if_neg (by decide), if_neg (by decide), if_neg (by decide), if_pos rfl]
  have eF : fulS M 8 = false := decide_eq_false (by omega)
  have eQ : lnQ B n w 8 (fulS M 8) q = cq (cbQ 8 1 (vv B n (nx B n w))) (cq (cbQ 8 0 (vv B n (nx B n w))) q (nx B n w)) (nx B n (nx B n w)) := by
    rw [eF]
    show cq _ (cq _ (fq q false w) _) _ = _
    rw [fq_f]
    rfl
  have e1 : nq B n q 0 8 (nx B n w) = cq (cbQ 8 0 (vv B n (nx B n w))) q (nx B n w) := nq_cq (fun _ => cb_i rfl rfl (by omega) (by omega))
  have e2 : ∀ p, nq B n p 0 35 (nx B n (nx B n w)) = cq (cbQ 8 1 (vv B n (nx B n w))) p (nx B n (nx B n w)) := fun p => nq_cq (fun _ => cb_i rfl rfl (by omega) (by omega))
  have e3 : ∀ c, 2 ≤ c → nmM (stM (tkM M 1 10)) 0 35 c = M c := fun c hc => by rw [nmM_f.2.1 c hc, stM_c hc, tkM_c hc]
  have b1 := nmV_b (M := tkM M 1 10) (x := 0) (y := 8) (by omega)
  have r3 := u3_row (j := 68 + 9 * nmV (tkM M 1 10) 0 8 + 7) (v := nmV (stM (tkM M 1 10)) 0 35) (e3 3 (by omega))
  refine st_asm e I3 rfl (FrT_t (FrT_t FrT_tk (FrT_t FrT_st FrT_nm)) (FrT_u (by decide))) (fun _ => by rw [eQ, e1, e2]) ?_ (fun hT h0 => ?_)
  · unfold SfS
    rw [r3]
    simp (disch := omega) only [u3_n]
    exact hs
  · rw [eQ] at h0
    obtain ⟨z1, c1⟩ := cq_0 h0
    obtain ⟨z0, c0⟩ := cq_0 z1
    rw [e1] at I1
    obtain ⟨v1, v2, v3⟩ := Inn_v (x := 0) (y := 8) I0 hT z0 (by rw [e1]; exact z1)
    obtain ⟨y1, y2, y3⟩ := Inn_v (x := 0) (y := 35) I1 hT z1 (by rw [e2]; exact h0)
    obtain ⟨⟨g0, g1, g2, g3⟩, g4, g5, g6, g7, g8, g9⟩ := hc z0
    have eS : tlS 8 (vv B n (nx B n w)) S = u3 S 9 (nv B n (nx B n w)) (nv B n (nx B n (nx B n w))) := by
      unfold tlS
      rw [if_neg (by decide), if_neg (by decide), if_neg (by decide), if_neg (by decide), if_pos rfl]
      rfl
    have eH : tlH 8 (vv B n (nx B n w)) hb = hb := by unfold tlH; rw [if_neg (by decide), if_neg (by decide)]
    have eB : tlB 8 (vv B n (nx B n w)) sb = so sb (p2 (nv B n (nx B n w))) := by unfold tlB; rw [if_pos (by decide)]; rfl
    have d9 : nmM (stM (tkM M 1 10)) 0 35 0 9 = M 0 9 ∧ nmM (stM (tkM M 1 10)) 0 35 0 10 = (if nv B n (nx B n w) ≤ M 0 10 then M 0 10 else nv B n (nx B n w)) := by
      rw [nmM_f.1 9 (by omega), nmM_f.1 10 (by omega), stM_9.1, stM_9.2, tkM_9 9 (by omega), tkM_9 10 (by omega), v1]
      exact ⟨rfl, rfl⟩
    unfold CSt
    rw [r3, u3_c (by decide : ¬ (0 : Nat) = 3), d9.1, d9.2, eS, eH, eB, v1, y1]
    refine ⟨⟨?_, ?_, ?_, ?_⟩, fun i a b => ?_, fun k a b => ?_, fun k a b => ?_, fun v a b => ?_, g8, Far_so g9 v2⟩
    · simp (disch := omega) only [u3_n]; exact g0
    · simp (disch := omega) only [u3_n]; exact g1
    · simp (disch := omega) only [u3_n]; exact g2
    · simp (disch := omega) only [u3_n]; exact g3
    · simp (disch := omega) only [u3_n]; exact g4 i a b
    · simp (disch := omega) only [u3_n] at b ⊢; exact g5 k a b
    · by_cases ck : k = nv B n (nx B n w)
      · rw [← ck]
        simp (disch := omega) only [u3_n, u3_s]
        exact ⟨trivial, (g6 k a b).2⟩
      · simp (disch := omega) only [u3_n]; exact g6 k a b
    · simp (disch := omega) only [u3_n] at b ⊢; exact g7 v a b
theorem st_9 (h : OKs B n M w q) (hs : SfS M) (ht : tT B n w = 3) (hw : wdC B w (tE B n w) = 10) (hc : q.1 = 0 → CSt M S hb sb) : StO B n M S hb sb w 9 q := by
  obtain ⟨k1, k2⟩ := OKs_tk (x := 1) (y := 10) h ⟨ht, by omega, by omega⟩
  have I0 : Inn B n (lnW B n (nOf 9) (nx B n w)) (tkM M 1 10) 2 (nx B n w) q := Or.inl ⟨k1, rfl⟩
  obtain ⟨M1, hM1⟩ : ∃ M1, M1 = tkM M 1 10 := ⟨_, rfl⟩
  have e : strM M = sdlM M1 := by
    unfold strM
    rw [k2, hw, if_neg (by decide), if_neg (by decide), if_neg (by decide), if_neg (by decide), if_neg (by decide), if_neg (by decide), if_pos rfl, hM1]
  have t3 : M1 3 = M 3 := by rw [hM1, tkM_c (by omega)]
  have t9 : ∀ j, 9 ≤ j → M1 0 j = M 0 j := fun j hj => by rw [hM1, tkM_9 j hj]
  have tF : FrT M M1 := by rw [hM1]; exact FrT_tk
  rw [← hM1] at I0
  have I1 := Inn_st I0
  have I2 := Inn_ast (a := nmV M1 0 8) I1
  have I3 : Inn B n (lnW B n (nOf 9) (nx B n w)) (sdlM M1) 0 (nx B n (nx B n (nx B n w))) (aq B n (nq B n q 0 8 (nx B n w)) (nmV M1 0 8) 0 8 (nx B n (nx B n w))) := Inn_r (by decide) I2
  have b1 := nmV_b (M := M1) (x := 0) (y := 8) (by omega)
  have eF : fulS M 9 = false := decide_eq_false (by omega)
  have eQ : lnQ B n w 9 (fulS M 9) q = cq (cbQ 9 1 (vv B n (nx B n w))) (cq (cbQ 9 0 (vv B n (nx B n w))) q (nx B n w)) (nx B n (nx B n w)) := by
    rw [eF]
    show cq _ (cq _ (fq q false w) _) _ = _
    rw [fq_f]
    rfl
  have e1 : nq B n q 0 8 (nx B n w) = cq (cbQ 9 0 (vv B n (nx B n w))) q (nx B n w) := nq_cq (fun _ => cb_i rfl rfl (by omega) (by omega))
  rw [e1] at I1 I3
  have e2 : lnW B n (nOf 9) (nx B n w) = none → aq B n (cq (cbQ 9 0 (vv B n (nx B n w))) q (nx B n w)) (nmV M1 0 8) 0 8 (nx B n (nx B n w)) = cq (cbQ 9 1 (vv B n (nx B n w))) (cq (cbQ 9 0 (vv B n (nx B n w))) q (nx B n w)) (nx B n (nx B n w)) := fun hT => aq_cq (fun z => by
    obtain ⟨q0, c0⟩ := cq_0 z
    obtain ⟨v1, _, _⟩ := Inn_v (x := 0) (y := 8) I0 hT q0 (by rw [e1]; exact z)
    rw [v1]
    exact cb_1 rfl rfl (by omega))
  have e4 : stM (agnM (stM M1) (nmV M1 0 8)) 3 = M 3 := by
    rw [stM_c (by omega)]
    unfold agnM
    split
    · rw [alsoM_c (by decide), stM_c (by omega), t3]
    · rw [stM_c (by omega), t3]
  have r3 : sdlM M1 3 = u3 M 3 (68 + 9 * nmV M1 0 8 + 8) (nmV (agnM (stM M1) (nmV M1 0 8)) 0 8) 3 := u3_row e4
  refine st_asm e I3 rfl (FrT_t tF (FrT_t (FrT_t FrT_st (FrT_t FrT_agn FrT_st)) (FrT_u (by decide)))) (fun hT => by rw [eQ, e2 hT]) ?_ (fun hT h0 => ?_)
  · unfold SfS
    rw [r3]
    simp (disch := omega) only [u3_n]
    exact hs
  · rw [eQ] at h0
    obtain ⟨z1, c1⟩ := cq_0 h0
    obtain ⟨z0, c0⟩ := cq_0 z1
    obtain ⟨u1', u2, u3'⟩ := Inn_v (x := 0) (y := 8) I0 hT z0 (by rw [e1]; exact z1)
    obtain ⟨v1, v2, v3, v4⟩ := Inn_av (a := nmV M1 0 8) (x := 0) (y := 8) I1 hT z1 (by rw [e2 hT]; exact h0)
    obtain ⟨⟨g0, g1, g2, g3⟩, g4, g5, g6, g7, g8, g9⟩ := hc z0
    have eS : tlS 9 (vv B n (nx B n w)) S = u3 S 10 (nv B n (nx B n w)) (nv B n (nx B n (nx B n w))) := by
      unfold tlS
      rw [if_neg (by decide), if_neg (by decide), if_neg (by decide), if_neg (by decide), if_neg (by decide), if_pos rfl]
      rfl
    have eH : tlH 9 (vv B n (nx B n w)) hb = hb := by unfold tlH; rw [if_neg (by decide), if_neg (by decide)]
    have eB : tlB 9 (vv B n (nx B n w)) sb = so sb (so (p2 (nv B n (nx B n w))) (p2 (nv B n (nx B n (nx B n w))))) := by unfold tlB; rw [if_neg (by decide), if_pos rfl]; rfl
    have d9 : sdlM M1 0 9 = M 0 9 ∧ sdlM M1 0 10 = (if nv B n (nx B n (nx B n w)) ≤ (if nv B n (nx B n w) ≤ M 0 10 then M 0 10 else nv B n (nx B n w)) then (if nv B n (nx B n w) ≤ M 0 10 then M 0 10 else nv B n (nx B n w)) else nv B n (nx B n (nx B n w))) := by
      unfold sdlM
      rw [u3_c (by decide : ¬ (0 : Nat) = 3), stM_9.1, stM_9.2, v1, agn_0, stM_9.1, stM_9.2, u1', t9 9 (by omega), t9 10 (by omega)]
      exact ⟨rfl, rfl⟩
    rw [v1, u1'] at r3
    unfold CSt
    rw [r3, d9.1, d9.2, eS, eH, eB]
    refine ⟨⟨?_, ?_, ?_, ?_⟩, fun i a b => ?_, fun k a b => ?_, fun k a b => ?_, fun v a b => ?_, g8, ?_⟩
    · simp (disch := omega) only [u3_n]; exact g0
    · simp (disch := omega) only [u3_n]; exact g1
    · simp (disch := omega) only [u3_n]; exact g2
    · simp (disch := omega) only [u3_n]; exact g3
    · simp (disch := omega) only [u3_n]; exact g4 i a b
    · simp (disch := omega) only [u3_n] at b ⊢; exact g5 k a b
    · by_cases ck : k = nv B n (nx B n w)
      · rw [← ck]
        simp (disch := omega) only [u3_n, u3_s]
        exact ⟨(g6 k a b).1, trivial⟩
      · simp (disch := omega) only [u3_n]; exact g6 k a b
    · simp (disch := omega) only [u3_n] at b ⊢; exact g7 v a b
    · have f1 := Far_so g9 u2
      have f2 := Far_so f1 v2
      have ea : so (so sb (p2 (nv B n (nx B n w)))) (p2 (nv B n (nx B n (nx B n w)))) = so sb (so (p2 (nv B n (nx B n w))) (p2 (nv B n (nx B n (nx B n w))))) := by
        unfold so
        rw [Int.toNat_natCast, Int.toNat_natCast, Nat.or_assoc]
      rw [← ea]
      exact f2
theorem st_7 (h : OKs B n M w q) (hs : SfS M) (ht : tT B n w = 3) (hw : wdC B w (tE B n w) = 8) (hc : q.1 = 0 → CSt M S hb sb) : StO B n M S hb sb w 7 q := by
  obtain ⟨k1, k2⟩ := OKs_tk (x := 1) (y := 10) h ⟨ht, by omega, by omega⟩
  have I0 : Inn B n (lnW B n (nOf 7) (nx B n w)) (tkM M 1 10) 2 (nx B n w) q := Or.inl ⟨k1, rfl⟩
  obtain ⟨M1, hM1⟩ : ∃ M1, M1 = tkM M 1 10 := ⟨_, rfl⟩
  have h4 : M 0 4 = w := h.2.1.2.2.2.1
  have e : strM M = wnlM M1 w := by
    unfold strM
    rw [k2, hw, if_neg (by decide), if_neg (by decide), if_neg (by decide), if_neg (by decide), if_pos rfl, hM1, h4]
  have t3 : M1 3 = M 3 := by rw [hM1, tkM_c (by omega)]
  have t9 : ∀ j, 9 ≤ j → M1 0 j = M 0 j := fun j hj => by rw [hM1, tkM_9 j hj]
  have tF : FrT M M1 := by rw [hM1]; exact FrT_tk
  have wn1 := nx_n (B := B) h.2.1.2.1
  have wn2 := wn1.2.2 (tT_3 ht).1
  have i0 := h.1.1.1.1
  have n0 := h.2.1.1.1
  have wp : i32 w := by
    have := h.2.1.2.1
    unfold i32
    omega
  rw [← hM1] at I0
  obtain ⟨full, hfu⟩ : ∃ b, b = decide (8 ≤ M1 3 3) := ⟨_, rfl⟩
  have eF : fulS M 7 = full := by
    rw [hfu, t3]
    unfold fulS
    apply decide_eq_decide.mpr
    omega
  have J0 := Inn_ful (full := full) wp h.2.2.2.2.2 wn2 I0
  obtain ⟨M2, hM2⟩ : ∃ M2, M2 = fulM M1 full w := ⟨_, rfl⟩
  rw [← hM2] at J0
  have I1 := Inn_st J0
  have I2 := Inn_nm (x := 0) (y := 35) I1
  have r3 : nmM (stM M2) 0 35 3 = M 3 := by rw [nmM_f.2.1 3 (by omega), stM_c (by omega), hM2, fulM_c (by decide), t3]
  have d9 : nmM (stM M2) 0 35 0 9 = M 0 9 ∧ nmM (stM M2) 0 35 0 10 = (if nmV M2 0 8 ≤ M 0 10 then M 0 10 else nmV M2 0 8) := by
    have f : M2 0 = M1 0 := by rw [hM2, fulM_c (by decide)]
    rw [nmM_f.1 9 (by omega), nmM_f.1 10 (by omega), stM_9.1, stM_9.2, f, t9 9 (by omega), t9 10 (by omega)]
    exact ⟨rfl, rfl⟩
  have F2 : FrT M (nmM (stM M2) 0 35) := FrT_t tF (FrT_t (by rw [hM2]; exact FrT_ful) (FrT_t FrT_st FrT_nm))
  have eQ : lnQ B n w 7 (fulS M 7) q = cq (cbQ 7 1 (vv B n (nx B n w))) (cq (cbQ 7 0 (vv B n (nx B n w))) (fq q full w) (nx B n w)) (nx B n (nx B n w)) := by
    rw [eF]
    rfl
  have e1 : nq B n (fq q full w) 0 8 (nx B n w) = cq (cbQ 7 0 (vv B n (nx B n w))) (fq q full w) (nx B n w) := nq_cq (fun _ => cb_i rfl rfl (by omega) (by omega))
  have e2 : ∀ p, nq B n p 0 35 (nx B n (nx B n w)) = cq (cbQ 7 1 (vv B n (nx B n w))) p (nx B n (nx B n w)) := fun p => nq_cq (fun _ => cb_i rfl rfl (by omega) (by omega))
  rw [e1] at I1 I2
  rw [e2, ← eQ] at I2
  obtain ⟨X, hX⟩ : ∃ X, X = nmM (stM M2) 0 35 := ⟨_, rfl⟩
  have eD : wnlM M1 w = if 8 ≤ M 3 3 then X else u3 (u3 (u3 X 3 (149 + 2 * M 3 3) (nmV M2 0 8)) 3 (149 + 2 * M 3 3 + 1) (nmV (stM M2) 0 35)) 3 3 (M 3 3 + 1) := by
    unfold wnlM
    rw [← hfu, ← hM2, ← hX, t3]
  rw [← hX] at I2 r3 d9 F2
  have s33 := hs.2.1
  refine st_asm (wE := nx B n (nx B n (nx B n w))) (q' := lnQ B n w 7 (fulS M 7) q) e ?_ rfl ?_ (fun hT => rfl) ?_ (fun hT h0 => ?_)
  · rw [eD]
    split
    · exact I2
    · exact Inn_r (by decide) (Inn_r (by decide) (Inn_r (by decide) I2))
  · rw [eD]
    split
    · exact F2
    · exact FrT_t F2 (FrT_t (FrT_u (by decide)) (FrT_t (FrT_u (by decide)) (FrT_u (by decide))))
  · rw [eD]
    split
    · exact SfS_c r3 hs
    · refine SfS_c (u3_row (u3_row (u3_row r3))) ?_
      unfold SfS
      simp (disch := omega) only [u3_n, u3_s]
      have := hs.1
      have := hs.2.2
      omega
  · rw [eQ] at h0
    obtain ⟨z2, c2⟩ := cq_0 h0
    obtain ⟨z1, c1⟩ := cq_0 z2
    obtain ⟨z0, c0⟩ := fq_0 z1
    have nf : ¬ 8 ≤ M 3 3 := by
      rw [hfu, t3] at c0
      exact of_decide_eq_false c0
    obtain ⟨v1, v2, v3⟩ := Inn_v (x := 0) (y := 8) J0 hT z1 (by rw [e1]; exact z2)
    obtain ⟨y1, y2, y3⟩ := Inn_v (x := 0) (y := 35) I1 hT z2 (by rw [e2]; exact h0)
    obtain ⟨⟨g0, g1, g2, g3⟩, g4, g5, g6, g7, g8, g9⟩ := hc z0
    have eS : tlS 7 (vv B n (nx B n w)) S = u3 (u3 (u3 S 11 (S 0 13) (nv B n (nx B n w))) 12 (S 0 13) (nv B n (nx B n (nx B n w)))) 0 13 (S 0 13 + 1) := by
      unfold tlS
      rw [if_neg (by decide), if_neg (by decide), if_neg (by decide), if_pos rfl]
      rfl
    have eH : tlH 7 (vv B n (nx B n w)) hb = hb := by unfold tlH; rw [if_neg (by decide), if_neg (by decide)]
    have eB : tlB 7 (vv B n (nx B n w)) sb = so sb (p2 (nv B n (nx B n w))) := by unfold tlB; rw [if_pos (by decide)]; rfl
    rw [v1] at d9
    have rr3 : u3 (u3 (u3 X 3 (149 + 2 * M 3 3) (nv B n (nx B n w))) 3 (149 + 2 * M 3 3 + 1) (nv B n (nx B n (nx B n w)))) 3 3 (M 3 3 + 1) 3 = u3 (u3 (u3 M 3 (149 + 2 * M 3 3) (nv B n (nx B n w))) 3 (149 + 2 * M 3 3 + 1) (nv B n (nx B n (nx B n w)))) 3 3 (M 3 3 + 1) 3 := u3_row (u3_row (u3_row r3))
    rw [eD, if_neg nf, v1, y1]
    unfold CSt
    rw [rr3, u3_c (by decide : ¬ (0 : Nat) = 3), u3_c (by decide : ¬ (0 : Nat) = 3), u3_c (by decide : ¬ (0 : Nat) = 3), d9.1, d9.2, eS, eH, eB]
    have s32 := hs.1
    rw [g2] at s32
    rw [g3] at s33 nf ⊢
    refine ⟨⟨?_, ?_, ?_, by rw [u3_s, u3_s]⟩, fun i a b => ?_, fun k a b => ?_, fun k a b => ?_, fun v a b => ?_, g8, Far_so g9 v2⟩
    · simp (disch := omega) only [u3_n]; exact g0
    · simp (disch := omega) only [u3_n]; exact g1
    · simp (disch := omega) only [u3_n]; exact g2
    · simp (disch := omega) only [u3_n]; exact g4 i a b
    · simp (disch := omega) only [u3_n] at b
      simp (disch := omega) only [u3_n]; exact g5 k a b
    · simp (disch := omega) only [u3_n]; exact g6 k a b
    · rw [u3_s] at b
      by_cases ck : v = S 0 13
      · rw [ck]
        simp (disch := omega) only [u3_n, u3_s]
        exact ⟨trivial, trivial⟩
      · simp (disch := omega) only [u3_n]; exact g7 v a (by omega)
end OUT
