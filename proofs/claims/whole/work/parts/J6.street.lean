/-! WHAT A STREET'S LINE DOES, in the reference -/
def fulS (M : Nat → Int → Int) (ln : Int) : Bool := decide ((ln = 7 ∧ 8 ≤ M 3 3) ∨ ((3 ≤ ln ∧ ln ≤ 6) ∧ 9 ≤ M 3 2))
/-- what is claimed of a line -/
def StO (B : Int → Int) (n : Int) (M S : Nat → Int → Int) (hb sb w ln : Int) (q : Int × Int) : Prop := LOut B n M (elM (strM M)) w ln (lnQ B n w ln (fulS M ln) q) (SfS (elM (strM M)) ∧ ((lnQ B n w ln (fulS M ln) q).1 = 0 → CSt (elM (strM M)) (tlS ln (vv B n (nx B n w)) S) (tlH ln (vv B n (nx B n w)) hb) (tlB ln (vv B n (nx B n w)) sb)))
theorem u3_row {X M : Nat → Int → Int} {c : Nat} {j v : Int} (h : X c = M c) : u3 X c j v c = u3 M c j v c := by
  funext i
  unfold u3
  rw [h]
section OUT
variable {B : Int → Int} {n w wE ln : Int} {M M' MM S S' : Nat → Int → Int} {q q' : Int × Int} {hb sb : Int}
theorem CSt_c (h3 : M' 3 = M 3) (h9 : M' 0 9 = M 0 9) (h10 : M' 0 10 = M 0 10) (h : CSt M S hb sb) : CSt M' S hb sb := by
  unfold CSt at *
  rw [h3, h9, h10]
  exact h
theorem SfS_c (h3 : M' 3 = M 3) (h : SfS M) : SfS M' := by
  unfold SfS at *
  rw [h3]
  exact h
theorem st_asm (e : strM M = MM) (I : Inn B n (lnW B n (nOf ln) (nx B n w)) MM 0 wE q') (hE : nx B n wE = enW B n (nOf ln) (nx B n w)) (hF : FrT M MM) (hQ : lnW B n (nOf ln) (nx B n w) = none → q' = lnQ B n w ln (fulS M ln) q) (hS : SfS MM) (hC : lnW B n (nOf ln) (nx B n w) = none → (lnQ B n w ln (fulS M ln) q).1 = 0 → CSt MM (tlS ln (vv B n (nx B n w)) S) (tlH ln (vv B n (nx B n w)) hb) (tlB ln (vv B n (nx B n w)) sb)) : StO B n M S hb sb w ln q := by
  obtain ⟨f1, f2⟩ := Inn_el I
  unfold StO
  rw [e]
  refine ⟨FrT_t hF FrT_el, f2, fun hT => ⟨?_, SfS_c (elM_f.2 3 (by omega)) hS, fun h0 => CSt_c (elM_f.2 3 (by omega)) (elM_f.1 9 (by omega)) (elM_f.1 10 (by omega)) (hC hT h0)⟩⟩
  rw [← hE, ← hQ hT]
  exact f1 hT
theorem st_0 (h : OKs B n M w q) (hs : SfS M) (ht : tT B n w = 3) (hw : wdC B w (tE B n w) = 1) (hc : q.1 = 0 → CSt M S hb sb) : StO B n M S hb sb w 0 q := by
  obtain ⟨k1, k2⟩ := OKs_tk (x := 1) (y := 10) h ⟨ht, by omega, by omega⟩
  have I0 : Inn B n (lnW B n (nOf 0) (nx B n w)) (tkM M 1 10) 1 (nx B n w) q := Or.inl ⟨k1, rfl⟩
  have I1 := Inn_nm (x := 1) (y := 8) I0
  have I2 := Inn_r (c := 3) (x := 0) (v := nmV (tkM M 1 10) 1 8) (by decide) I1
  have e : strM M = u3 (nmM (tkM M 1 10) 1 8) 3 0 (nmV (tkM M 1 10) 1 8) := by
    unfold strM
    rw [k2, hw, if_neg (by decide), if_pos rfl]
  have eF : fulS M 0 = false := decide_eq_false (by omega)
  have eQ : lnQ B n w 0 (fulS M 0) q = cq (cbQ 0 0 (vv B n (nx B n w))) q (nx B n w) := by
    rw [eF]
    show cq _ (fq q false w) _ = _
    rw [fq_f]
  have eN : nq B n q 1 8 (nx B n w) = cq (cbQ 0 0 (vv B n (nx B n w))) q (nx B n w) := nq_cq (fun _ => cb_i rfl rfl (by omega) (by omega))
  have e3 : ∀ c, 2 ≤ c → nmM (tkM M 1 10) 1 8 c = M c := fun c hc => by rw [nmM_f.2.1 c hc, tkM_c hc]
  have r3 := u3_row (j := 0) (v := nmV (tkM M 1 10) 1 8) (e3 3 (by omega))
  have r9 : ∀ j, 9 ≤ j → u3 (nmM (tkM M 1 10) 1 8) 3 0 (nmV (tkM M 1 10) 1 8) 0 j = M 0 j := fun j hj => by rw [u3_c (by decide), nmM_f.1 j hj, tkM_9 j hj]
  refine st_asm e I2 rfl (FrT_t (FrT_t FrT_tk FrT_nm) (FrT_u (by decide))) (fun _ => by rw [eQ, eN]) ?_ (fun hT h0 => ?_)
  · unfold SfS
    rw [r3]
    simp (disch := omega) only [u3_n]
    exact hs
  · rw [eQ] at h0
    obtain ⟨q0, c0⟩ := cq_0 h0
    rw [← eN] at h0
    obtain ⟨v1, v2, v3⟩ := Inn_v I0 hT q0 h0
    obtain ⟨⟨g0, g1, g2, g3⟩, g4, g5, g6, g7, g8, g9⟩ := hc q0
    have eS : tlS 0 (vv B n (nx B n w)) S = u3 S 0 0 (nv B n (nx B n w)) := if_pos rfl
    unfold CSt
    rw [r3, r9 9 (by omega), r9 10 (by omega), eS, v1]
    refine ⟨⟨by rw [u3_s, u3_s], ?_, ?_, ?_⟩, fun i a b => ?_, fun k a b => ?_, fun k a b => ?_, fun v a b => ?_, g8, g9⟩
    · simp (disch := omega) only [u3_n]; exact g1
    · simp (disch := omega) only [u3_n]; exact g2
    · simp (disch := omega) only [u3_n]; exact g3
    · simp (disch := omega) only [u3_n]; exact g4 i a b
    · simp (disch := omega) only [u3_n] at b ⊢; exact g5 k a b
    · simp (disch := omega) only [u3_n]; exact g6 k a b
    · simp (disch := omega) only [u3_n] at b ⊢; exact g7 v a b
theorem st_1 (h : OKs B n M w q) (hs : SfS M) (ht : tT B n w = 3) (hw : wdC B w (tE B n w) = 2) (hc : q.1 = 0 → CSt M S hb sb) : StO B n M S hb sb w 1 q := by
  obtain ⟨k1, k2⟩ := OKs_tk (x := 1) (y := 10) h ⟨ht, by omega, by omega⟩
  have I0 : Inn B n (lnW B n (nOf 1) (nx B n w)) (tkM M 1 10) 3 (nx B n w) q := Or.inl ⟨k1, rfl⟩
  obtain ⟨M1, hM1⟩ : ∃ M1, M1 = tkM M 1 10 := ⟨_, rfl⟩
  have e : strM M = dlM M1 := by
    unfold strM
    rw [k2, hw, if_neg (by decide), if_neg (by decide), if_pos rfl, hM1]
  have t3 : M1 3 = M 3 := by rw [hM1, tkM_c (by omega)]
  have t9 : ∀ j, 9 ≤ j → M1 0 j = M 0 j := fun j hj => by rw [hM1, tkM_9 j hj]
  have tF : FrT M M1 := by rw [hM1]; exact FrT_tk
  rw [← hM1] at I0
  have I1 := Inn_ht I0
  have I2 := Inn_aht (a := nmV M1 0 7) I1
  have I3 := Inn_nm (x := 1) (y := 9) I2
  have b1 := nmV_b (M := M1) (x := 0) (y := 7) (by omega)
  have b2 := nmV_b (M := agnM (htM M1) (nmV M1 0 7)) (x := 0) (y := 7) (by omega)
  have eF : fulS M 1 = false := decide_eq_false (by omega)
  have eQ : lnQ B n w 1 (fulS M 1) q = cq (cbQ 1 2 (vv B n (nx B n w))) (cq (cbQ 1 1 (vv B n (nx B n w))) (cq (cbQ 1 0 (vv B n (nx B n w))) q (nx B n w)) (nx B n (nx B n w))) (nx B n (nx B n (nx B n w))) := by
    rw [eF]
    show cq _ (cq _ (cq _ (fq q false w) _) _) _ = _
    rw [fq_f]
    rfl
  have e1 : nq B n q 0 7 (nx B n w) = cq (cbQ 1 0 (vv B n (nx B n w))) q (nx B n w) := nq_cq (fun _ => cb_i rfl rfl (by omega) (by omega))
  rw [e1] at I1 I2 I3
  have e2 : lnW B n (nOf 1) (nx B n w) = none → aq B n (cq (cbQ 1 0 (vv B n (nx B n w))) q (nx B n w)) (nmV M1 0 7) 0 7 (nx B n (nx B n w)) = cq (cbQ 1 1 (vv B n (nx B n w))) (cq (cbQ 1 0 (vv B n (nx B n w))) q (nx B n w)) (nx B n (nx B n w)) := fun hT => aq_cq (fun z => by
    obtain ⟨q0, c0⟩ := cq_0 z
    obtain ⟨v1, _, _⟩ := Inn_v (x := 0) (y := 7) I0 hT q0 (by rw [e1]; exact z)
    rw [v1]
    exact cb_1 rfl rfl (by omega))
  have e4 : ∀ c, 2 ≤ c → nmM (htM (agnM (htM M1) (nmV M1 0 7))) 1 9 c = M1 c := fun c hc => by rw [nmM_f.2.1 c hc, htM_c hc, agnM]; split <;> (try rw [alsoM_c (by omega)]) <;> rw [htM_c hc]
  have F4 : FrT M (nmM (htM (agnM (htM M1) (nmV M1 0 7))) 1 9) := FrT_t tF (FrT_t FrT_ht (FrT_t FrT_agn (FrT_t FrT_ht FrT_nm)))
  have r3 := e4 3 (by omega)
  rw [t3] at r3
  obtain ⟨X, hX⟩ : ∃ X, X = nmM (htM (agnM (htM M1) (nmV M1 0 7))) 1 9 := ⟨_, rfl⟩
  obtain ⟨va, hva⟩ : ∃ v, v = nmV M1 0 7 := ⟨_, rfl⟩
  have eD : dlM M1 = if va = nmV (agnM (htM M1) va) 0 7 then X else u3 (u3 X 3 (4 + 8 * va + nmV (agnM (htM M1) va) 0 7) (nmV (htM (agnM (htM M1) va)) 1 9)) 3 (4 + 8 * nmV (agnM (htM M1) va) 0 7 + va) (nmV (htM (agnM (htM M1) va)) 1 9) := by
    unfold dlM
    rw [hX, hva]
  rw [← hX] at F4 r3
  have ID : Inn B n (lnW B n (nOf 1) (nx B n w)) (dlM M1) 0 (nx B n (nx B n (nx B n (nx B n w)))) (nq B n (aq B n (cq (cbQ 1 0 (vv B n (nx B n w))) q (nx B n w)) (nmV M1 0 7) 0 7 (nx B n (nx B n w))) 1 9 (nx B n (nx B n (nx B n w)))) := by
    rw [eD]
    rw [← hX] at I3
    split
    · exact I3
    · exact Inn_r (by decide) (Inn_r (by decide) I3)
  refine st_asm e ID rfl ?_ (fun hT => ?_) ?_ (fun hT h0 => ?_)
  · rw [eD]
    split
    · exact F4
    · exact FrT_t F4 (FrT_t (FrT_u (by decide)) (FrT_u (by decide)))
  · rw [eQ, e2 hT]
    exact nq_cq (fun _ => cb_i rfl rfl (by omega) (by omega))
  · rw [← hva] at b1 b2
    rw [eD]
    split
    · exact SfS_c r3 hs
    · refine SfS_c (u3_row (u3_row r3)) ?_
      unfold SfS
      simp (disch := omega) only [u3_n]
      exact hs
  · rw [eQ] at h0
    obtain ⟨z2, c2⟩ := cq_0 h0
    obtain ⟨z1, c1⟩ := cq_0 z2
    obtain ⟨z0, c0⟩ := cq_0 z1
    obtain ⟨u1', u2, u3'⟩ := Inn_v (x := 0) (y := 7) I0 hT z0 (by rw [e1]; exact z1)
    obtain ⟨v1, v2, v3, v4⟩ := Inn_av (a := nmV M1 0 7) (x := 0) (y := 7) I1 hT z1 (by rw [e2 hT]; exact z2)
    rw [e2 hT] at I2
    obtain ⟨w1, w2, w3⟩ := Inn_v (x := 1) (y := 9) I2 hT z2 (by rw [show nq B n (cq (cbQ 1 1 (vv B n (nx B n w))) (cq (cbQ 1 0 (vv B n (nx B n w))) q (nx B n w)) (nx B n (nx B n w))) 1 9 (nx B n (nx B n (nx B n w))) = cq (cbQ 1 2 (vv B n (nx B n w))) (cq (cbQ 1 1 (vv B n (nx B n w))) (cq (cbQ 1 0 (vv B n (nx B n w))) q (nx B n w)) (nx B n (nx B n w))) (nx B n (nx B n (nx B n w))) from nq_cq (fun _ => cb_i rfl rfl (by omega) (by omega))]; exact h0)
    obtain ⟨⟨g0, g1, g2, g3⟩, g4, g5, g6, g7, g8, g9⟩ := hc z0
    have d9 : X 0 9 = (if nmV (agnM (htM M1) va) 0 7 ≤ (if va ≤ M 0 9 then M 0 9 else va) then (if va ≤ M 0 9 then M 0 9 else va) else nmV (agnM (htM M1) va) 0 7) ∧ X 0 10 = M 0 10 := by
      rw [hX, ← hva, nmM_f.1 9 (by omega), nmM_f.1 10 (by omega), htM_9.1, htM_9.2, agn_0, htM_9.1, htM_9.2, ← hva, t9 9 (by omega), t9 10 (by omega)]
      exact ⟨rfl, rfl⟩
    rw [← hva] at v1 v4 w1 u1'
    rw [v1, u1'] at d9
    rw [u1'] at v4
    have eS : tlS 1 (vv B n (nx B n w)) S = u3 (u3 S 1 (nv B n (nx B n w) * 8 + nv B n (nx B n (nx B n w))) (nv B n (nx B n (nx B n (nx B n w))))) 1 (nv B n (nx B n (nx B n w)) * 8 + nv B n (nx B n w)) (nv B n (nx B n (nx B n (nx B n w)))) := by
      unfold tlS
      rw [if_neg (by decide), if_pos rfl]
      rfl
    have eH : tlH 1 (vv B n (nx B n w)) hb = so hb (so (p2 (nv B n (nx B n w))) (p2 (nv B n (nx B n (nx B n w))))) := if_pos rfl
    have eB : tlB 1 (vv B n (nx B n w)) sb = sb := by unfold tlB; rw [if_neg (by decide), if_neg (by decide)]
    rw [eD, v1, w1, u1', if_neg (fun z => v4 z.symm), eS, eH, eB]
    obtain ⟨A, hA⟩ : ∃ A, A = nv B n (nx B n w) := ⟨_, rfl⟩
    obtain ⟨C, hC⟩ : ∃ C, C = nv B n (nx B n (nx B n w)) := ⟨_, rfl⟩
    obtain ⟨D, hD⟩ : ∃ D, D = nv B n (nx B n (nx B n (nx B n w))) := ⟨_, rfl⟩
    rw [← hA] at u2 u3' v4 d9 ⊢
    rw [← hC] at v2 v3 v4 d9 ⊢
    rw [← hD]
    have rr3 : u3 (u3 X 3 (4 + 8 * A + C) D) 3 (4 + 8 * C + A) D 3 = u3 (u3 M 3 (4 + 8 * A + C) D) 3 (4 + 8 * C + A) D 3 := u3_row (u3_row r3)
    unfold CSt
    rw [rr3, u3_c (by decide : ¬ (0 : Nat) = 3), u3_c (by decide : ¬ (0 : Nat) = 3), d9.1, d9.2]
    refine ⟨⟨?_, ?_, ?_, ?_⟩, fun i a b => ?_, fun k a b => ?_, fun k a b => ?_, fun v a b => ?_, ?_, g9⟩
    · simp (disch := omega) only [u3_n]; exact g0
    · simp (disch := omega) only [u3_n]; exact g1
    · simp (disch := omega) only [u3_n]; exact g2
    · simp (disch := omega) only [u3_n]; exact g3
    · have := g4 i a b
      unfold u3
      by_cases p1 : i = C * 8 + A
      · repeat (first | rw [if_neg (by omega)] | rw [if_pos (by omega)])
      · by_cases p2' : i = A * 8 + C
        · repeat (first | rw [if_neg (by omega)] | rw [if_pos (by omega)])
        · repeat (first | rw [if_neg (by omega)] | rw [if_pos (by omega)])
          exact this
    · simp (disch := omega) only [u3_n] at b ⊢; exact g5 k a b
    · simp (disch := omega) only [u3_n]; exact g6 k a b
    · simp (disch := omega) only [u3_n] at b ⊢; exact g7 v a b
    · have f1 := Far_so g8 u2
      have f2 := Far_so f1 v2
      have ea : so (so hb (p2 A)) (p2 C) = so hb (so (p2 A) (p2 C)) := by
        unfold so
        have h1 := p2_0 A
        have h2 := p2_0 C
        rw [Int.toNat_natCast, Int.toNat_natCast, Nat.or_assoc]
      rw [← ea]
      exact f2
end OUT
