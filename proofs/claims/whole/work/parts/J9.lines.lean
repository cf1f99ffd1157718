/-! WHAT A LAW'S, A ROUND'S, A CATCH'S LINE DOES, in the reference -/
def tlL (ln : Int) (V : Int → Int) (L : Nat → Int → Int) : Nat → Int → Int := if ln = 10 then u3 L 0 0 (V 0) else if ln = 11 then u3 L 0 1 (V 0) else if ln = 12 then u3 L 0 2 (V 0) else if ln = 13 then u3 L 0 3 (so (L 0 3) (p2 (V 0))) else if ln = 14 then u3 L 1 (V 0) (V 1) else u3 L 0 4 1
def adR (R : Nat → Int → Int) (k v : Int) : Nat → Int → Int := u3 (u3 (u3 R 1 (R 0 2) k) 2 (R 0 2) v) 0 2 (R 0 2 + 1)
def tlR (ln : Int) (V : Int → Int) (R : Nat → Int → Int) : Nat → Int → Int := if ln = 16 then u3 (u3 R 0 0 (V 0)) 0 1 (V 1) else adR R (ln - 17) (if ln = 18 then -1 else V 0)
def tlC (ln : Int) (V : Int → Int) (C : Nat → Int → Int) : Nat → Int → Int := u3 (u3 C 1 (C 0 0) (if ln = 20 then 10 + V 0 else V 0)) 0 0 (C 0 0 + 1)
def CLt (M L : Nat → Int → Int) : Prop := (M 3 0 = L 0 0 ∧ M 3 1 = L 0 1 ∧ M 3 2 = L 0 2 ∧ M 3 3 = L 0 3 ∧ M 3 4 = L 0 4) ∧ ∀ w, 0 ≤ w → w < 9 → M 3 (5 + w) = L 1 w
def CRt (M R : Nat → Int → Int) : Prop := (M 3 0 = R 0 2 ∧ M 3 1 = R 0 0 ∧ M 3 2 = R 0 1) ∧ ∀ i, 0 ≤ i → i < R 0 2 → M 3 (3 + 2 * i) = R 1 i ∧ M 3 (4 + 2 * i) = R 2 i
def CCt (M C : Nat → Int → Int) : Prop := M 3 0 = C 0 0 ∧ ∀ i, 0 ≤ i → i < C 0 0 → M 3 (1 + i) = C 1 i
def SfL (M : Nat → Int → Int) : Prop := 0 ≤ M 3 3 ∧ M 3 3 < 256
def SfR (M : Nat → Int → Int) : Prop := 0 ≤ M 3 0 ∧ M 3 0 ≤ 40
def SfC (M : Nat → Int → Int) : Prop := 0 ≤ M 3 0 ∧ M 3 0 ≤ 8
section OUT
variable {B : Int → Int} {n w wE ln x y j : Int} {M M' M1 MM X L R C : Nat → Int → Int} {q q' q'' : Int × Int} {T : Option Int} {full : Bool}
theorem LOut_asm {P : (Nat → Int → Int) → Prop} (hS : ∀ X X' : Nat → Int → Int, X' 3 = X 3 → P X → P X') (I : Inn B n (lnW B n (nOf ln) (nx B n w)) X 0 wE q') (hE : nx B n wE = enW B n (nOf ln) (nx B n w)) (hF : FrT M X) (hQ : lnW B n (nOf ln) (nx B n w) = none → q' = q'') (hC : lnW B n (nOf ln) (nx B n w) = none → P X) : LOut B n M (elM X) w ln q'' (P (elM X)) := by
  obtain ⟨f1, f2⟩ := Inn_el I
  refine ⟨FrT_t hF FrT_el, f2, fun hT => ⟨?_, hS _ _ (elM_f.2 3 (by omega)) (hC hT)⟩⟩
  rw [← hE, ← hQ hT]
  exact f1 hT
theorem lnQ_0 (hn : nOf ln = 0) : lnQ B n w ln full q = fq q full w := by
  unfold lnQ
  rw [hn]
  rfl
theorem lnQ_1 (hn : nOf ln = 1) : lnQ B n w ln full q = cq (cbQ ln 0 (vv B n (nx B n w))) (fq q full w) (nx B n w) := by
  unfold lnQ
  rw [hn]
  rfl
theorem lnQ_2 (hn : nOf ln = 2) : lnQ B n w ln full q = cq (cbQ ln 1 (vv B n (nx B n w))) (cq (cbQ ln 0 (vv B n (nx B n w))) (fq q full w) (nx B n w)) (nx B n (nx B n w)) := by
  unfold lnQ
  rw [hn]
  rfl
theorem one_ln {k : Nat} (I0 : Inn B n T M1 (k + 1) w q) {cb : Bool} (hcb : (cb = true) = (x ≤ nv B n w ∧ nv B n w ≤ y)) : Inn B n T (nmM M1 x y) k (nx B n w) (cq cb q w) ∧ (T = none → (cq cb q w).1 = 0 → q.1 = 0 ∧ nmV M1 x y = nv B n w ∧ x ≤ nv B n w ∧ nv B n w ≤ y) := by
  have e : nq B n q x y w = cq cb q w := nq_cq (fun _ => hcb)
  refine ⟨by rw [← e]; exact Inn_nm I0, fun hT h0 => ?_⟩
  have z := (cq_0 h0).1
  exact ⟨z, Inn_v I0 hT z (by rw [e]; exact h0)⟩
theorem CLt_c (X X' : Nat → Int → Int) (h : X' 3 = X 3) (hc : CLt X L) : CLt X' L := by
  unfold CLt at *
  rw [h]
  exact hc
theorem CRt_c (X X' : Nat → Int → Int) (h : X' 3 = X 3) (hc : CRt X R) : CRt X' R := by
  unfold CRt at *
  rw [h]
  exact hc
theorem CCt_c (X X' : Nat → Int → Int) (h : X' 3 = X 3) (hc : CCt X C) : CCt X' C := by
  unfold CCt at *
  rw [h]
  exact hc
def LaO (B : Int → Int) (n : Int) (M L : Nat → Int → Int) (w ln : Int) (q : Int × Int) : Prop := LOut B n M (elM (lawM M)) w ln (lnQ B n w ln false q) (SfL (elM (lawM M)) ∧ ((lnQ B n w ln false q).1 = 0 → CLt (elM (lawM M)) (tlL ln (vv B n (nx B n w)) L)))
theorem la_1 {g : Int → Int} (h : OKs B n M w q) (ht : tT B n w = 3) (hw : wdC B w (tE B n w) = ln + 1) (hl : 10 ≤ ln ∧ ln ≤ 15) (hn : nOf ln = 1) (hcb : ∀ V, (cbQ ln 0 V = true) = (x ≤ V 0 ∧ V 0 ≤ y)) (hxy : x ≤ y) (e : lawM M = u3 (nmM (tkM M 11 16) x y) 3 j (g (nmV (tkM M 11 16) x y))) (hsf : ∀ v, x ≤ v → v ≤ y → SfL (u3 M 3 j (g v))) (hcl : q.1 = 0 → ∀ V : Int → Int, x ≤ V 0 → V 0 ≤ y → CLt (u3 M 3 j (g (V 0))) (tlL ln V L)) : LaO B n M L w ln q := by
  obtain ⟨k1, k2⟩ := OKs_tk (x := 11) (y := 16) h ⟨ht, by omega, by omega⟩
  have I0 : Inn B n (lnW B n (nOf ln) (nx B n w)) (tkM M 11 16) 1 (nx B n w) q := Or.inl ⟨k1, by rw [hn]⟩
  obtain ⟨I1, hv⟩ := one_ln (x := x) (y := y) (cb := cbQ ln 0 (vv B n (nx B n w))) I0 (hcb _)
  have eQ : lnQ B n w ln false q = cq (cbQ ln 0 (vv B n (nx B n w))) q (nx B n w) := by rw [lnQ_1 hn, fq_f]
  have r3 : u3 (nmM (tkM M 11 16) x y) 3 j (g (nmV (tkM M 11 16) x y)) 3 = u3 M 3 j (g (nmV (tkM M 11 16) x y)) 3 := u3_row (by rw [nmM_f.2.1 3 (by omega), tkM_c (by omega)])
  have b := nmV_b (M := tkM M 11 16) hxy
  unfold LaO
  rw [e]
  refine LOut_asm (P := fun X => SfL X ∧ ((lnQ B n w ln false q).1 = 0 → CLt X (tlL ln (vv B n (nx B n w)) L))) (fun X X' h3 hp => ⟨by unfold SfL; rw [h3]; exact hp.1, fun z => CLt_c X X' h3 (hp.2 z)⟩) (Inn_r (c := 3) (by decide) I1) ?_ (FrT_t (FrT_t FrT_tk FrT_nm) (FrT_u (by decide))) (fun _ => eQ.symm) (fun hT => ⟨?_, fun z => ?_⟩)
  · rw [hn]; rfl
  · unfold SfL
    rw [r3]
    exact hsf _ b.1 b.2
  · rw [eQ] at z
    obtain ⟨z0, a1, a2, a3⟩ := hv hT z
    rw [a1] at r3 ⊢
    exact CLt_c _ _ r3 (hcl z0 (vv B n (nx B n w)) a2 a3)
theorem la_all (hl : 10 ≤ ln ∧ ln ≤ 15) (h : OKs B n M w q) (hs : SfL M) (ht : tT B n w = 3) (hw : wdC B w (tE B n w) = ln + 1) (hc : q.1 = 0 → CLt M L) : LaO B n M L w ln q := by
  obtain ⟨k1, k2⟩ := OKs_tk (x := 11) (y := 16) h ⟨ht, by omega, by omega⟩
  have hl6 : ln = 10 ∨ ln = 11 ∨ ln = 12 ∨ ln = 13 ∨ ln = 14 ∨ ln = 15 := by omega
  rcases hl6 with rfl | rfl | rfl | rfl | rfl | rfl
  · refine la_1 (x := 0) (y := 60) (j := 0) (g := fun v => v) h ht hw (by omega) rfl (fun V => cb_i rfl rfl (by omega) (by omega)) (by omega) (by unfold lawM; rw [k2, hw, if_pos (by omega)]) (fun v _ _ => ?_) (fun z V a b => ?_)
    · unfold SfL; simp (disch := omega) only [u3_n]; exact hs
    · obtain ⟨⟨g0, g1, g2, g3, g4⟩, g5⟩ := hc z
      rw [show tlL 10 V L = u3 L 0 0 (V 0) from if_pos rfl]
      refine ⟨⟨by rw [u3_s, u3_s], ?_, ?_, ?_, ?_⟩, fun w a b => ?_⟩ <;> simp (disch := omega) only [u3_n]
      · exact g1
      · exact g2
      · exact g3
      · exact g4
      · exact g5 w a b
  · refine la_1 (x := 1) (y := 999) (j := 1) (g := fun v => v) h ht hw (by omega) rfl (fun V => cb_i rfl rfl (by omega) (by omega)) (by omega) (by unfold lawM; rw [k2, hw, if_neg (by omega), if_pos (by omega)]) (fun v _ _ => ?_) (fun z V a b => ?_)
    · unfold SfL; simp (disch := omega) only [u3_n]; exact hs
    · obtain ⟨⟨g0, g1, g2, g3, g4⟩, g5⟩ := hc z
      rw [show tlL 11 V L = u3 L 0 1 (V 0) from rfl]
      refine ⟨⟨?_, by rw [u3_s, u3_s], ?_, ?_, ?_⟩, fun w a b => ?_⟩ <;> simp (disch := omega) only [u3_n]
      · exact g0
      · exact g2
      · exact g3
      · exact g4
      · exact g5 w a b
  · refine la_1 (x := 0) (y := 99) (j := 2) (g := fun v => v) h ht hw (by omega) rfl (fun V => cb_i rfl rfl (by omega) (by omega)) (by omega) (by unfold lawM; rw [k2, hw, if_neg (by omega), if_neg (by omega), if_pos (by omega)]) (fun v _ _ => ?_) (fun z V a b => ?_)
    · unfold SfL; simp (disch := omega) only [u3_n]; exact hs
    · obtain ⟨⟨g0, g1, g2, g3, g4⟩, g5⟩ := hc z
      rw [show tlL 12 V L = u3 L 0 2 (V 0) from rfl]
      refine ⟨⟨?_, ?_, by rw [u3_s, u3_s], ?_, ?_⟩, fun w a b => ?_⟩ <;> simp (disch := omega) only [u3_n]
      · exact g0
      · exact g1
      · exact g3
      · exact g4
      · exact g5 w a b
  · refine la_1 (x := 0) (y := 7) (j := 3) (g := fun v => so (M 3 3) (p2 v)) h ht hw (by omega) rfl (fun V => cb_i rfl rfl (by omega) (by omega)) (by omega) (by unfold lawM; rw [k2, hw, if_neg (by omega), if_neg (by omega), if_neg (by omega), if_pos (by omega)]) (fun v a b => ?_) (fun z V a b => ?_)
    · unfold SfL
      rw [u3_s]
      have h8 : p2 8 = 256 := by decide
      have := so_p2 (s := M 3 3) (t := p2 v) (k := 8) ⟨hs.1, by have := hs.2; omega⟩ ⟨by have := p2_0 v; omega, (p2_lt_iff a (by omega)).mpr (by omega)⟩
      omega
    · obtain ⟨⟨g0, g1, g2, g3, g4⟩, g5⟩ := hc z
      rw [show tlL 13 V L = u3 L 0 3 (so (L 0 3) (p2 (V 0))) from rfl]
      refine ⟨⟨?_, ?_, ?_, by rw [u3_s, u3_s, g3], ?_⟩, fun w a b => ?_⟩ <;> simp (disch := omega) only [u3_n]
      · exact g0
      · exact g1
      · exact g2
      · exact g4
      · exact g5 w a b
  · have I0 : Inn B n (lnW B n (nOf 14) (nx B n w)) (tkM M 11 16) 2 (nx B n w) q := Or.inl ⟨k1, rfl⟩
    obtain ⟨I1, hv1⟩ := one_ln (x := 0) (y := 8) (cb := cbQ 14 0 (vv B n (nx B n w))) I0 (cb_i rfl rfl (by omega) (by omega))
    obtain ⟨I2, hv2⟩ := one_ln (x := 0) (y := 9) (cb := cbQ 14 1 (vv B n (nx B n w))) I1 (cb_i rfl rfl (by omega) (by omega))
    have eQ := lnQ_2 (B := B) (n := n) (w := w) (ln := 14) (full := false) (q := q) rfl
    conv at eQ => rhs; rw [fq_f]
    have e : lawM M = u3 (nmM (nmM (tkM M 11 16) 0 8) 0 9) 3 (5 + nmV (tkM M 11 16) 0 8) (nmV (nmM (tkM M 11 16) 0 8) 0 9) := by unfold lawM; rw [k2, hw, if_neg (by omega), if_neg (by omega), if_neg (by omega), if_neg (by omega), if_pos (by omega)]
    have r3 : u3 (nmM (nmM (tkM M 11 16) 0 8) 0 9) 3 (5 + nmV (tkM M 11 16) 0 8) (nmV (nmM (tkM M 11 16) 0 8) 0 9) 3 = u3 M 3 (5 + nmV (tkM M 11 16) 0 8) (nmV (nmM (tkM M 11 16) 0 8) 0 9) 3 := u3_row (by rw [nmM_f.2.1 3 (by omega), nmM_f.2.1 3 (by omega), tkM_c (by omega)])
    have b := nmV_b (M := tkM M 11 16) (x := 0) (y := 8) (by omega)
    unfold LaO
    rw [e]
    refine LOut_asm (P := fun X => SfL X ∧ ((lnQ B n w 14 false q).1 = 0 → CLt X (tlL 14 (vv B n (nx B n w)) L))) (fun X X' h3 hp => ⟨by unfold SfL; rw [h3]; exact hp.1, fun z => CLt_c X X' h3 (hp.2 z)⟩) (Inn_r (c := 3) (by decide) I2) rfl (FrT_t (FrT_t FrT_tk (FrT_t FrT_nm FrT_nm)) (FrT_u (by decide))) (fun _ => eQ.symm) (fun hT => ⟨?_, fun z => ?_⟩)
    · unfold SfL
      rw [r3]
      simp (disch := omega) only [u3_n]
      exact hs
    · rw [eQ] at z
      obtain ⟨z1, a1, a2, a3⟩ := hv2 hT z
      obtain ⟨z0, c1, c2, c3⟩ := hv1 hT z1
      rw [a1, c1] at r3
      rw [a1, c1]
      refine CLt_c _ _ r3 ?_
      obtain ⟨⟨g0, g1, g2, g3, g4⟩, g5⟩ := hc z0
      rw [show tlL 14 (vv B n (nx B n w)) L = u3 L 1 (nv B n (nx B n w)) (nv B n (nx B n (nx B n w))) from rfl]
      refine ⟨⟨?_, ?_, ?_, ?_, ?_⟩, fun k a b => ?_⟩
      · simp (disch := omega) only [u3_n]; exact g0
      · simp (disch := omega) only [u3_n]; exact g1
      · simp (disch := omega) only [u3_n]; exact g2
      · simp (disch := omega) only [u3_n]; exact g3
      · simp (disch := omega) only [u3_n]; exact g4
      · by_cases ck : k = nv B n (nx B n w)
        · rw [← ck, u3_s, u3_s]
        · simp (disch := omega) only [u3_n]; exact g5 k a b
  · have I0 : Inn B n (lnW B n (nOf 15) (nx B n w)) (tkM M 11 16) 0 (nx B n w) q := Or.inl ⟨k1, rfl⟩
    have eQ : lnQ B n w 15 false q = q := by rw [lnQ_0 rfl, fq_f]
    have e : lawM M = u3 (tkM M 11 16) 3 4 1 := by unfold lawM; rw [k2, hw, if_neg (by omega), if_neg (by omega), if_neg (by omega), if_neg (by omega), if_neg (by omega), if_pos (by omega)]
    have r3 : u3 (tkM M 11 16) 3 4 1 3 = u3 M 3 4 1 3 := u3_row (tkM_c (by omega))
    unfold LaO
    rw [e]
    refine LOut_asm (P := fun X => SfL X ∧ ((lnQ B n w 15 false q).1 = 0 → CLt X (tlL 15 (vv B n (nx B n w)) L))) (fun X X' h3 hp => ⟨by unfold SfL; rw [h3]; exact hp.1, fun z => CLt_c X X' h3 (hp.2 z)⟩) (Inn_r (c := 3) (by decide) I0) rfl (FrT_t FrT_tk (FrT_u (by decide))) (fun _ => eQ.symm) (fun hT => ⟨?_, fun z => ?_⟩)
    · unfold SfL
      rw [r3]
      simp (disch := omega) only [u3_n]
      exact hs
    · rw [eQ] at z
      refine CLt_c _ _ r3 ?_
      obtain ⟨⟨g0, g1, g2, g3, g4⟩, g5⟩ := hc z
      rw [show tlL 15 (vv B n (nx B n w)) L = u3 L 0 4 1 from rfl]
      refine ⟨⟨?_, ?_, ?_, ?_, by rw [u3_s, u3_s]⟩, fun k a b => ?_⟩ <;> simp (disch := omega) only [u3_n]
      · exact g0
      · exact g1
      · exact g2
      · exact g3
      · exact g5 k a b
/-! rounds -/
def fulR (M : Nat → Int → Int) (ln : Int) : Bool := decide ((17 ≤ ln ∧ ln ≤ 19) ∧ 40 ≤ M 3 0)
def RoO (B : Int → Int) (n : Int) (M R : Nat → Int → Int) (w ln : Int) (q : Int × Int) : Prop := LOut B n M (elM (rouM M)) w ln (lnQ B n w ln (fulR M ln) q) (SfR (elM (rouM M)) ∧ ((lnQ B n w ln (fulR M ln) q).1 = 0 → CRt (elM (rouM M)) (tlR ln (vv B n (nx B n w)) R)))
theorem ro_w {Y : Nat → Int → Int} {nn : Int} (hl : 17 ≤ ln ∧ ln ≤ 19) (hs : SfR M) (hc : q.1 = 0 → CRt M R) (e : rouM M = rwM Y (M 3 0) (ln + 1) nn) (Y3 : Y 3 = M 3) (I : Inn B n (lnW B n (nOf ln) (nx B n w)) Y 0 wE (lnQ B n w ln (fulR M ln) q)) (hE : nx B n wE = enW B n (nOf ln) (nx B n w)) (hF : FrT M Y) (hv : lnW B n (nOf ln) (nx B n w) = none → (lnQ B n w ln (fulR M ln) q).1 = 0 → q.1 = 0 ∧ ¬ 40 ≤ M 3 0 ∧ nn = if ln = 18 then -1 else vv B n (nx B n w) 0) : RoO B n M R w ln q := by
  have s0 := hs
  unfold SfR at s0
  have r3 : ∀ c V k : Int, u3 (u3 (u3 Y 3 (3 + 2 * c) V) 3 (4 + 2 * c) nn) 3 0 k 3 = u3 (u3 (u3 M 3 (3 + 2 * c) V) 3 (4 + 2 * c) nn) 3 0 k 3 := fun c V k => u3_row (u3_row (u3_row Y3))
  unfold RoO
  rw [e]
  refine LOut_asm (P := fun X => SfR X ∧ ((lnQ B n w ln (fulR M ln) q).1 = 0 → CRt X (tlR ln (vv B n (nx B n w)) R))) (fun X X' h3 hp => ⟨by unfold SfR; rw [h3]; exact hp.1, fun z => CRt_c X X' h3 (hp.2 z)⟩) (wE := wE) ?_ hE ?_ (fun _ => rfl) (fun hT => ⟨?_, fun z => ?_⟩)
  · unfold rwM
    split
    · exact I
    · exact Inn_r (by decide) (Inn_r (by decide) (Inn_r (by decide) I))
  · unfold rwM
    split
    · exact hF
    · exact FrT_t hF (FrT_t (FrT_u (by decide)) (FrT_t (FrT_u (by decide)) (FrT_u (by decide))))
  · unfold rwM SfR
    split
    · rw [Y3]; exact hs
    · rw [r3, u3_s]; omega
  · obtain ⟨z0, nf, en⟩ := hv hT z
    obtain ⟨⟨g0, g1, g2⟩, g3⟩ := hc z0
    unfold rwM
    rw [if_neg nf]
    refine CRt_c _ _ (r3 _ _ _) ?_
    rw [show tlR ln (vv B n (nx B n w)) R = adR R (ln - 17) (if ln = 18 then -1 else vv B n (nx B n w) 0) from if_neg (by omega), ← en, show ln + 1 - 18 = ln - 17 by omega]
    rw [g0] at s0 nf ⊢
    unfold adR
    refine ⟨⟨by rw [u3_s, u3_s], ?_, ?_⟩, fun i a b => ?_⟩
    · simp (disch := omega) only [u3_n]; exact g1
    · simp (disch := omega) only [u3_n]; exact g2
    · rw [u3_s] at b
      by_cases ck : i = R 0 2
      · rw [ck]
        simp (disch := omega) only [u3_n, u3_s]
        exact ⟨trivial, trivial⟩
      · simp (disch := omega) only [u3_n]; exact g3 i a (by omega)
theorem ro_all (hl : 16 ≤ ln ∧ ln ≤ 19) (h : OKs B n M w q) (hs : SfR M) (ht : tT B n w = 3) (hw : wdC B w (tE B n w) = ln + 1) (hc : q.1 = 0 → CRt M R) : RoO B n M R w ln q := by
  obtain ⟨k1, k2⟩ := OKs_tk (x := 17) (y := 20) h ⟨ht, by omega, by omega⟩
  have h4 : M 0 4 = w := h.2.1.2.2.2.1
  have wn1 := nx_n (B := B) h.2.1.2.1
  have wn2 := wn1.2.2 (tT_3 ht).1
  have i0 := h.1.1.1.1
  have n0 := h.2.1.1.1
  have wp : i32 w := by
    have := h.2.1.2.1
    unfold i32
    omega
  by_cases c16 : ln = 16
  · subst c16
    have I0 : Inn B n (lnW B n (nOf 16) (nx B n w)) (tkM M 17 20) 2 (nx B n w) q := Or.inl ⟨k1, rfl⟩
    obtain ⟨I1, hv1⟩ := one_ln (x := 0) (y := 7) (cb := cbQ 16 0 (vv B n (nx B n w))) I0 (cb_i rfl rfl (by omega) (by omega))
    have I1' : Inn B n (lnW B n (nOf 16) (nx B n w)) (bgM (tkM M 17 20)) 1 (nx B n (nx B n w)) _ := Inn_r (c := 3) (by decide) I1
    obtain ⟨I2, hv2⟩ := one_ln (x := 0) (y := 35) (cb := cbQ 16 1 (vv B n (nx B n w))) I1' (cb_i rfl rfl (by omega) (by omega))
    have eF : fulR M 16 = false := decide_eq_false (by omega)
    have eQ := lnQ_2 (B := B) (n := n) (w := w) (ln := 16) (full := fulR M 16) (q := q) rfl
    conv at eQ => rhs; rw [eF, fq_f]
    have e : rouM M = u3 (nmM (bgM (tkM M 17 20)) 0 35) 3 2 (nmV (bgM (tkM M 17 20)) 0 35) := by unfold rouM; rw [k2, hw, if_pos (by omega)]
    have r2 : nmM (bgM (tkM M 17 20)) 0 35 3 = u3 M 3 1 (nmV (tkM M 17 20) 0 7) 3 := by
      rw [nmM_f.2.1 3 (by omega)]
      exact u3_row (by rw [nmM_f.2.1 3 (by omega), tkM_c (by omega)])
    have r3 : u3 (nmM (bgM (tkM M 17 20)) 0 35) 3 2 (nmV (bgM (tkM M 17 20)) 0 35) 3 = u3 (u3 M 3 1 (nmV (tkM M 17 20) 0 7)) 3 2 (nmV (bgM (tkM M 17 20)) 0 35) 3 := u3_row r2
    unfold RoO
    rw [e]
    refine LOut_asm (P := fun X => SfR X ∧ ((lnQ B n w 16 (fulR M 16) q).1 = 0 → CRt X (tlR 16 (vv B n (nx B n w)) R))) (fun X X' h3 hp => ⟨by unfold SfR; rw [h3]; exact hp.1, fun z => CRt_c X X' h3 (hp.2 z)⟩) (Inn_r (c := 3) (by decide) I2) rfl (FrT_t (FrT_t FrT_tk (FrT_t (FrT_t FrT_nm (FrT_u (by decide))) FrT_nm)) (FrT_u (by decide))) (fun _ => eQ.symm) (fun hT => ⟨?_, fun z => ?_⟩)
    · unfold SfR
      rw [r3]
      simp (disch := omega) only [u3_n]
      exact hs
    · rw [eQ] at z
      obtain ⟨z1, a1, a2, a3⟩ := hv2 hT z
      obtain ⟨z0, c1, c2, c3⟩ := hv1 hT z1
      rw [a1, c1] at r3
      rw [a1]
      refine CRt_c _ _ r3 ?_
      obtain ⟨⟨g0, g1, g2⟩, g3⟩ := hc z0
      rw [show tlR 16 (vv B n (nx B n w)) R = u3 (u3 R 0 0 (nv B n (nx B n w))) 0 1 (nv B n (nx B n (nx B n w))) from rfl]
      refine ⟨⟨?_, ?_, by rw [u3_s, u3_s]⟩, fun i a b => ?_⟩
      · simp (disch := omega) only [u3_n]; exact g0
      · simp (disch := omega) only [u3_n, u3_s]
      · simp (disch := omega) only [u3_n] at b ⊢; exact g3 i a b
  · have eF : fulR M ln = decide (40 ≤ M 3 0) := by
      unfold fulR
      apply decide_eq_decide.mpr
      omega
    have e : rouM M = rwM (acM (fulM (tkM M 17 20) (decide (40 ≤ M 3 0)) w) (ln + 1)) (M 3 0) (ln + 1) (acV (fulM (tkM M 17 20) (decide (40 ≤ M 3 0)) w) (ln + 1)) := by
      unfold rouM
      rw [k2, hw, if_neg (by omega), h4]
    obtain ⟨X0, hX0⟩ : ∃ X, X = fulM (tkM M 17 20) (decide (40 ≤ M 3 0)) w := ⟨_, rfl⟩
    have X3 : X0 3 = M 3 := by rw [hX0, fulM_c (by decide), tkM_c (by omega)]
    have XF : FrT M X0 := by rw [hX0]; exact FrT_t FrT_tk FrT_ful
    have cases3 : ln = 17 ∨ ln = 18 ∨ ln = 19 := by omega
    rw [← hX0] at e
    rcases cases3 with rfl | rfl | rfl
    · have I0 : Inn B n (lnW B n (nOf 17) (nx B n w)) (tkM M 17 20) 1 (nx B n w) q := Or.inl ⟨k1, rfl⟩
      have J0 := Inn_ful (full := decide (40 ≤ M 3 0)) wp h.2.2.2.2.2 wn2 I0
      rw [← hX0] at J0
      obtain ⟨I1, hv1⟩ := one_ln (x := 0) (y := 7) (cb := cbQ 17 0 (vv B n (nx B n w))) J0 (cb_i rfl rfl (by omega) (by omega))
      have eQ := lnQ_1 (B := B) (n := n) (w := w) (ln := 17) (full := fulR M 17) (q := q) rfl
      conv at eQ => rhs; rw [eF]
      refine ro_w (by omega) hs hc e ?_ (wE := nx B n (nx B n w)) ?_ rfl ?_ (fun hT z => ?_)
      · rw [show acM X0 (17 + 1) = nmM X0 0 7 from rfl, nmM_f.2.1 3 (by omega), X3]
      · rw [eQ]; exact I1
      · exact FrT_t XF FrT_nm
      · rw [eQ] at z
        obtain ⟨z1, a1, a2, a3⟩ := hv1 hT z
        obtain ⟨z0, f0⟩ := fq_0 z1
        exact ⟨z0, of_decide_eq_false f0, a1⟩
    · have I0 : Inn B n (lnW B n (nOf 18) (nx B n w)) (tkM M 17 20) 0 (nx B n w) q := Or.inl ⟨k1, rfl⟩
      have J0 := Inn_ful (full := decide (40 ≤ M 3 0)) wp h.2.2.2.2.2 wn2 I0
      rw [← hX0] at J0
      have eQ := lnQ_0 (B := B) (n := n) (w := w) (ln := 18) (full := fulR M 18) (q := q) rfl
      conv at eQ => rhs; rw [eF]
      refine ro_w (by omega) hs hc e ?_ (wE := nx B n w) ?_ rfl ?_ (fun hT z => ?_)
      · exact X3
      · rw [eQ]; exact J0
      · exact XF
      · rw [eQ] at z
        obtain ⟨z0, f0⟩ := fq_0 z
        exact ⟨z0, of_decide_eq_false f0, rfl⟩
    · have I0 : Inn B n (lnW B n (nOf 19) (nx B n w)) (tkM M 17 20) 1 (nx B n w) q := Or.inl ⟨k1, rfl⟩
      have J0 := Inn_ful (full := decide (40 ≤ M 3 0)) wp h.2.2.2.2.2 wn2 I0
      rw [← hX0] at J0
      obtain ⟨I1, hv1⟩ := one_ln (x := 1) (y := 35) (cb := cbQ 19 0 (vv B n (nx B n w))) J0 (cb_i rfl rfl (by omega) (by omega))
      have eQ := lnQ_1 (B := B) (n := n) (w := w) (ln := 19) (full := fulR M 19) (q := q) rfl
      conv at eQ => rhs; rw [eF]
      refine ro_w (by omega) hs hc e ?_ (wE := nx B n (nx B n w)) ?_ rfl ?_ (fun hT z => ?_)
      · rw [show acM X0 (19 + 1) = nmM X0 1 35 from rfl, nmM_f.2.1 3 (by omega), X3]
      · rw [eQ]; exact I1
      · exact FrT_t XF FrT_nm
      · rw [eQ] at z
        obtain ⟨z1, a1, a2, a3⟩ := hv1 hT z
        obtain ⟨z0, f0⟩ := fq_0 z1
        exact ⟨z0, of_decide_eq_false f0, a1⟩
/-! catches -/
def fulC (M : Nat → Int → Int) : Bool := decide (8 ≤ M 3 0)
def CaO (B : Int → Int) (n : Int) (M C : Nat → Int → Int) (w ln : Int) (q : Int × Int) : Prop := LOut B n M (elM (catM M)) w ln (lnQ B n w ln (fulC M) q) (SfC (elM (catM M)) ∧ ((lnQ B n w ln (fulC M) q).1 = 0 → CCt (elM (catM M)) (tlC ln (vv B n (nx B n w)) C)))
theorem ca_all (hl : 20 ≤ ln ∧ ln ≤ 21) (h : OKs B n M w q) (hs : SfC M) (ht : tT B n w = 3) (hw : wdC B w (tE B n w) = ln + 1) (hc : q.1 = 0 → CCt M C) : CaO B n M C w ln q := by
  obtain ⟨k1, k2⟩ := OKs_tk (x := 21) (y := 22) h ⟨ht, by omega, by omega⟩
  have h4 : M 0 4 = w := h.2.1.2.2.2.1
  have wn1 := nx_n (B := B) h.2.1.2.1
  have wn2 := wn1.2.2 (tT_3 ht).1
  have i0 := h.1.1.1.1
  have n0 := h.2.1.1.1
  have wp : i32 w := by
    have := h.2.1.2.1
    unfold i32
    omega
  have hl2 : ln = 20 ∨ ln = 21 := by omega
  have hn : nOf ln = 1 := by rcases hl2 with e | e <;> rw [e] <;> rfl
  have hcb : ∀ V, (cbQ ln 0 V = true) = (0 ≤ V 0 ∧ V 0 ≤ 8) := fun V => by rcases hl2 with e | e <;> rw [e] <;> exact cb_i rfl rfl (by omega) (by omega)
  have I0 : Inn B n (lnW B n (nOf ln) (nx B n w)) (tkM M 21 22) 1 (nx B n w) q := Or.inl ⟨k1, by rw [hn]⟩
  have J0 := Inn_ful (full := decide (8 ≤ M 3 0)) wp h.2.2.2.2.2 wn2 I0
  have e : catM M = ctwM (nmM (fulM (tkM M 21 22) (decide (8 ≤ M 3 0)) w) 0 8) (M 3 0) (ln + 1) (nmV (fulM (tkM M 21 22) (decide (8 ≤ M 3 0)) w) 0 8) := by
    unfold catM
    rw [k2, hw, h4]
  obtain ⟨X0, hX0⟩ : ∃ X, X = fulM (tkM M 21 22) (decide (8 ≤ M 3 0)) w := ⟨_, rfl⟩
  rw [← hX0] at J0 e
  obtain ⟨I1, hv1⟩ := one_ln (x := 0) (y := 8) (cb := cbQ ln 0 (vv B n (nx B n w))) J0 (hcb _)
  have Y3 : nmM X0 0 8 3 = M 3 := by rw [nmM_f.2.1 3 (by omega), hX0, fulM_c (by decide), tkM_c (by omega)]
  have YF : FrT M (nmM X0 0 8) := by rw [hX0]; exact FrT_t (FrT_t FrT_tk FrT_ful) FrT_nm
  have eQ : lnQ B n w ln (fulC M) q = cq (cbQ ln 0 (vv B n (nx B n w))) (fq q (decide (8 ≤ M 3 0)) w) (nx B n w) := lnQ_1 hn
  have s0 := hs
  unfold SfC at s0
  have r3 : ∀ c v k : Int, u3 (u3 (nmM X0 0 8) 3 c v) 3 0 k 3 = u3 (u3 M 3 c v) 3 0 k 3 := fun c v k => u3_row (u3_row Y3)
  unfold CaO
  rw [e]
  refine LOut_asm (P := fun X => SfC X ∧ ((lnQ B n w ln (fulC M) q).1 = 0 → CCt X (tlC ln (vv B n (nx B n w)) C))) (fun X X' h3 hp => ⟨by unfold SfC; rw [h3]; exact hp.1, fun z => CCt_c X X' h3 (hp.2 z)⟩) (wE := nx B n (nx B n w)) (q' := lnQ B n w ln (fulC M) q) ?_ ?_ ?_ (fun _ => rfl) (fun hT => ⟨?_, fun z => ?_⟩)
  · rw [eQ]
    unfold ctwM
    split
    · exact I1
    · exact Inn_r (by decide) (Inn_r (by decide) I1)
  · rw [hn]; rfl
  · unfold ctwM
    split
    · exact YF
    · exact FrT_t YF (FrT_t (FrT_u (by decide)) (FrT_u (by decide)))
  · unfold ctwM SfC
    split
    · rw [Y3]; exact hs
    · rw [r3, u3_s]; omega
  · rw [eQ] at z
    obtain ⟨z1, a1, a2, a3⟩ := hv1 hT z
    obtain ⟨z0, f0⟩ := fq_0 z1
    have nf := of_decide_eq_false f0
    obtain ⟨g0, g3⟩ := hc z0
    unfold ctwM
    rw [if_neg nf, a1]
    refine CCt_c _ _ (r3 _ _ _) ?_
    have ev : (if ln + 1 = 21 then (10 : Int) else 0) + nv B n (nx B n w) = if ln = 20 then 10 + nv B n (nx B n w) else nv B n (nx B n w) := by
      by_cases c : ln = 20
      · rw [if_pos (by omega), if_pos c]
      · rw [if_neg (by omega), if_neg c]; omega
    rw [ev]
    rw [g0] at s0 nf ⊢
    unfold tlC
    refine ⟨by rw [u3_s, u3_s], fun i a b => ?_⟩
    rw [u3_s] at b
    by_cases ck : i = C 0 0
    · rw [ck]
      simp (disch := omega) only [u3_n, u3_s]
      rfl
    · simp (disch := omega) only [u3_n]; exact g3 i a (by omega)
end OUT
