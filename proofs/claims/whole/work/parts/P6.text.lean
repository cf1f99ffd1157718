/-! THE LAW: text -/
theorem agS_r {S S' : Nat → Int → Int} (h : ∀ f, f < 13 → S' f = S f) : agS S S' := ⟨by rw [h 0 (by omega)]; exact ⟨rfl, rfl, rfl, rfl⟩, fun i _ _ => by rw [h 1 (by omega)], fun f f1 f2 j _ _ => by rw [h f (by omega)]⟩
theorem agL_r {S S' : Nat → Int → Int} (h : ∀ f, f < 2 → S' f = S f) : agL S S' := ⟨by rw [h 0 (by omega)]; exact ⟨rfl, rfl, rfl, rfl, rfl⟩, fun i _ _ => by rw [h 1 (by omega)]⟩
theorem agR_r {S S' : Nat → Int → Int} (h : ∀ f, f < 3 → S' f = S f) : agR S S' := ⟨by rw [h 0 (by omega)]; exact ⟨rfl, rfl, rfl⟩, fun i _ _ => by rw [h 1 (by omega)], fun i _ _ => by rw [h 2 (by omega)]⟩
theorem agC_r {S S' : Nat → Int → Int} (h : ∀ f, f < 2 → S' f = S f) : agC S S' := ⟨by rw [h 0 (by omega)], fun i _ _ => by rw [h 1 (by omega)]⟩
section NEW
variable {A : Int → Int} {X S : Nat → Int → Int} {s hb sb : Int}
theorem RSt_new (hA : ∀ i, 0 ≤ i → i < 165 → A (s + i) = X 3 i) (v : SV5 S) (h : CSt X S hb sb) : RSt A s S := by
  obtain ⟨⟨v0, v1, v2, v3⟩, v4, v5⟩ := v
  obtain ⟨c0, c1, c2, c3, c4, _⟩ := h
  have a0 := hA 0 (by omega) (by omega)
  rw [Int.add_zero] at a0
  refine ⟨by rw [a0, hA 1 (by omega) (by omega), hA 2 (by omega) (by omega), hA 3 (by omega) (by omega)]; exact c0, fun i g1 g2 => ?_, fun k g1 g2 => ?_, fun w g1 g2 => ?_⟩
  · rw [show s + 4 + i = s + (4 + i) by omega, hA _ (by omega) (by omega)]
    exact c1 i g1 g2
  · obtain ⟨d0, d1, d2, d3, d4, d5, d6⟩ := c2 k g1 g2
    obtain ⟨d7, d8⟩ := c3 k g1 (by omega)
    refine ⟨?_, ?_, ?_, ?_, ?_, ?_, ?_, ?_, ?_⟩
    · rw [show s + 68 + 9 * k + 0 = s + (68 + 9 * k) by omega, hA _ (by omega) (by omega)]; exact d0
    · rw [show s + 68 + 9 * k + 1 = s + (68 + 9 * k + 1) by omega, hA _ (by omega) (by omega)]; exact d1
    · rw [show s + 68 + 9 * k + 2 = s + (68 + 9 * k + 2) by omega, hA _ (by omega) (by omega)]; exact d2
    · rw [show s + 68 + 9 * k + 3 = s + (68 + 9 * k + 3) by omega, hA _ (by omega) (by omega)]; exact d3
    · rw [show s + 68 + 9 * k + 4 = s + (68 + 9 * k + 4) by omega, hA _ (by omega) (by omega)]; exact d4
    · rw [show s + 68 + 9 * k + 5 = s + (68 + 9 * k + 5) by omega, hA _ (by omega) (by omega)]; exact d5
    · rw [show s + 68 + 9 * k + 6 = s + (68 + 9 * k + 6) by omega, hA _ (by omega) (by omega)]; exact d6
    · rw [show s + 68 + 9 * k + 7 = s + (68 + 9 * k + 7) by omega, hA _ (by omega) (by omega)]; exact d7
    · rw [show s + 68 + 9 * k + 8 = s + (68 + 9 * k + 8) by omega, hA _ (by omega) (by omega)]; exact d8
  · obtain ⟨d0, d1⟩ := c4 w g1 g2
    rw [show s + 149 + 2 * w = s + (149 + 2 * w) by omega, show s + (149 + 2 * w) + 1 = s + (149 + 2 * w + 1) by omega, hA _ (by omega) (by omega), hA _ (by omega) (by omega)]
    exact ⟨d0, d1⟩
theorem RLt_new (hA : ∀ i, 0 ≤ i → i < 14 → A (s + i) = X 3 i) (h : CLt X S) : RLt A s S := by
  have a0 := hA 0 (by omega) (by omega)
  rw [Int.add_zero] at a0
  refine ⟨by rw [a0, hA 1 (by omega) (by omega), hA 2 (by omega) (by omega), hA 3 (by omega) (by omega), hA 4 (by omega) (by omega)]; exact h.1, fun w g1 g2 => ?_⟩
  rw [show s + 5 + w = s + (5 + w) by omega, hA _ (by omega) (by omega)]
  exact h.2 w g1 g2
theorem RQt_new (hA : ∀ i, 0 ≤ i → i < 83 → A (s + i) = X 3 i) (v : RV S) (h : CRt X S) : RQt A s S := by
  have v0 := v.1
  have a0 := hA 0 (by omega) (by omega)
  rw [Int.add_zero] at a0
  refine ⟨by rw [a0, hA 1 (by omega) (by omega), hA 2 (by omega) (by omega)]; exact h.1, fun i g1 g2 => ?_⟩
  rw [show s + 3 + 2 * i = s + (3 + 2 * i) by omega, show s + 4 + 2 * i = s + (4 + 2 * i) by omega, hA _ (by omega) (by omega), hA _ (by omega) (by omega)]
  exact h.2 i g1 g2
theorem RCt_new (hA : ∀ i, 0 ≤ i → i < 9 → A (s + i) = X 3 i) (v : CV S) (h : CCt X S) : RCt A s S := by
  have v0 := v.1
  have a0 := hA 0 (by omega) (by omega)
  rw [Int.add_zero] at a0
  refine ⟨by rw [a0]; exact h.1, fun i g1 g2 => ?_⟩
  rw [show s + 1 + i = s + (1 + i) by omega, hA _ (by omega) (by omega)]
  exact h.2 i g1 g2
end NEW
theorem txR_cl {s n : Int} {B : Int → Int} {D : (Nat → Int → Int) × Int × Int} (hs : s = 0) (h : (txR s B n D).1.1 = 0) : clQ (txR s B n D).2 = 0 := by
  by_cases c : s = 0 ∧ (txF s B n 601 (tW B n 0) (0, -1) D).1.1 = 0 ∧ clQ (txF s B n 601 (tW B n 0) (0, -1) D).2 ≠ 0
  · unfold txR at h
    rw [if_pos c] at h
    exact absurd h c.2.2
  · unfold txR at h ⊢
    rw [if_neg c] at h ⊢
    exact Classical.byContradiction (fun z => c ⟨hs, h, z⟩)
section TELL
variable {I I' : Nat → Int → Int} {lo : Nat} {A A' : Int → Int} {s a v : Int} {X : Nat → Int → Int} {D : (Nat → Int → Int) × Int × Int}
/-- a text has been taken -/
theorem TRl_t (h : TRl I (lo + 1) A) (hs : 0 ≤ s ∧ s < 4) (hv : v = if a = -1 then A s else a) (ha : if a = -1 then A s < 2 else 0 ≤ a ∧ a < A s) (q1 : I' (lo + 1) 1 = 0 ∧ I' (lo + 1) 2 = 0 ∧ I' (lo + 1) 3 = -1) (qt : I' (lo + 1 + 1) = I (lo + 1 + 1)) (qc : ∀ j, I' (lo + 1 + 2) j = if j = s ∧ a = -1 then A s + 1 else I (lo + 1 + 2) j) (fI : ∀ x, lo + 8 ≤ x → x < lo + 48 → ¬ (adT lo s v ≤ x ∧ x < adT lo s v + szT s) → I' x = I x) (hg : agD s D.1 (rws I' (adT lo s v))) (hD : DI s D) (hcl : s = 0 → clQ D = 0) (fA : ∀ j, 0 ≤ j → (j < plQ s v ∨ plQ s v + szQ s ≤ j) → A' j = if j = s ∧ a = -1 then A s + 1 else if j = 4 then 0 else if j = 5 then 0 else if j = 6 then -1 else A j) (hX : CT s X D) (hA : ∀ i, 0 ≤ i → i < szQ s → A' (plQ s v + i) = X 3 i) : TRl I' (lo + 1) A' := by
  obtain ⟨h1, h2, h3, h4, h5, h6, h7, h8, h9⟩ := h
  have n0 := h1 0 (by omega) (by omega)
  have n1 := h1 1 (by omega) (by omega)
  have n2 := h1 2 (by omega) (by omega)
  have n3 := h1 3 (by omega) (by omega)
  have nS := h1 s hs.1 hs.2
  have v2 : 0 ≤ v ∧ v < 2 := by
    by_cases c : a = -1
    · rw [if_pos c] at hv ha
      omega
    · rw [if_neg c] at hv ha
      omega
  have plb : 610 ≤ plQ s v ∧ plQ s v + szQ s ≤ 1152 := by
    have hs' : s = 0 ∨ s = 1 ∨ s = 2 ∨ s = 3 := by omega
    unfold plQ szQ
    rcases hs' with rfl | rfl | rfl | rfl <;> simp <;> omega
  have aC : ∀ σ, 0 ≤ σ → σ < 4 → A' σ = if σ = s ∧ a = -1 then A s + 1 else A σ := fun σ z1 z2 => by
    rw [fA σ z1 (by omega)]
    rw [if_neg (show ¬ σ = 4 by omega), if_neg (show ¬ σ = 5 by omega), if_neg (show ¬ σ = 6 by omega)]
  have aF : ∀ j, 7 ≤ j → (j < plQ s v ∨ plQ s v + szQ s ≤ j) → A' j = A j := fun j z1 z2 => by
    rw [fA j (by omega) z2, if_neg (by omega), if_neg (by omega), if_neg (by omega), if_neg (by omega)]
  have old : ∀ σ x, 0 ≤ σ → σ < 4 → 0 ≤ x → x < A' σ → ¬ (σ = s ∧ x = v) → x < A σ := fun σ x z1 z2 z3 z4 z5 => by
    rw [aC σ z1 z2] at z4
    by_cases c : σ = s ∧ a = -1
    · rw [if_pos c] at z4
      rw [if_pos c.2] at hv
      have := c.1
      subst this
      omega
    · rw [if_neg c] at z4
      exact z4
  have x2 : ∀ x : Int, 0 ≤ x → x < 2 → x = 0 ∨ x = 1 := fun x g1 g2 => by omega
  have k1 : ∀ s', 0 ≤ s' → s' < 4 → I' (lo + 1 + 2) s' = A' s' ∧ 0 ≤ A' s' ∧ A' s' ≤ 2 := fun s' g1 g2 => by
    have := h1 s' g1 g2
    rw [qc, aC s' g1 g2]
    by_cases c : s' = s ∧ a = -1
    · rw [if_pos c, if_pos c]
      rw [if_pos c.2] at ha
      omega
    · rw [if_neg c, if_neg c]
      exact this
  have k2 : I' (lo + 1) 1 = A' 4 ∧ 0 ≤ A' 4 ∧ A' 4 ≤ 600 := by
    rw [fA 4 (by omega) (by omega), if_neg (by omega), if_pos rfl]
    omega
  have k3 : I' (lo + 1) 2 = A' 5 ∧ I' (lo + 1) 3 = A' 6 := by
    rw [fA 5 (by omega) (by omega), fA 6 (by omega) (by omega), if_neg (by omega), if_neg (by omega), if_pos rfl, if_neg (by omega), if_neg (by omega), if_neg (by omega), if_pos rfl]
    exact q1.2
  have k4 : TpB I' (lo + 1 + 1) (fun j => A' (10 + j)) := fun j g1 g2 => by
    dsimp only
    rw [qt, aF _ (by omega) (by omega)]
    exact h4 j g1 g2
  have hs' : s = 0 ∨ s = 1 ∨ s = 2 ∨ s = 3 := by omega
  rcases hs' with rfl | rfl | rfl | rfl
  · have ea : adT lo 0 v = lo + 8 + 20 * v.toNat := rfl
    have es : szT 0 = 13 := rfl
    have ep : plQ 0 v = 610 + 165 * v := rfl
    have ez : szQ 0 = 165 := rfl
    rw [ea] at hg
    rw [ea, es] at fI
    rw [ep, ez] at aF hA
    refine ⟨k1, k2, k3, k4, fun x g1 g2 => ?_, fun x g1 g2 => ?_, fun x g1 g2 => ?_, fun x g1 g2 => ?_, ?_⟩
    · by_cases xv : x = v
      · subst xv
        have hv5 := cl_SV5 (hD.1 rfl) (hcl rfl)
        have ag : agS D.1 (rws I' (lo + 1 + 7 + 20 * x.toNat)) := hg.1 rfl
        exact ⟨SV5_ag ag hv5, RSt_ag ag hv5 (RSt_new hA hv5 (hX.1 rfl))⟩
      · have oo := old 0 x (by omega) (by omega) g1 g2 (fun z => xv z.2)
        obtain ⟨u1, u2⟩ := h5 x g1 oo
        have ag : agS (rws I (lo + 1 + 7 + 20 * x.toNat)) (rws I' (lo + 1 + 7 + 20 * x.toNat)) := agS_r (fun f hf => fI _ (by omega) (by omega) (by omega))
        exact ⟨SV5_ag ag u1, RSt_A (SV5_ag ag u1) (fun j z1 z2 => aF j (by omega) (by omega)) (RSt_ag ag u1 u2)⟩
    · have oo := old 1 x (by omega) (by omega) g1 g2 (fun z => absurd z.1 (by decide))
      obtain ⟨u1, u2⟩ := h6 x g1 oo
      have ag : agL (rws I (lo + 1 + 20 + 20 * x.toNat)) (rws I' (lo + 1 + 20 + 20 * x.toNat)) := agL_r (fun f hf => fI _ (by omega) (by omega) (by omega))
      exact ⟨LV_ag ag u1, RLt_A (fun j z1 z2 => aF j (by omega) (by omega)) (RLt_ag ag u2)⟩
    · have oo := old 2 x (by omega) (by omega) g1 g2 (fun z => absurd z.1 (by decide))
      obtain ⟨u1, u2⟩ := h7 x g1 oo
      have ag : agR (rws I (lo + 1 + 22 + 20 * x.toNat)) (rws I' (lo + 1 + 22 + 20 * x.toNat)) := agR_r (fun f hf => fI _ (by omega) (by omega) (by omega))
      exact ⟨RV_ag ag u1, RQt_A (RV_ag ag u1) (fun j z1 z2 => aF j (by omega) (by omega)) (RQt_ag ag u1 u2)⟩
    · have oo := old 3 x (by omega) (by omega) g1 g2 (fun z => absurd z.1 (by decide))
      obtain ⟨u1, u2⟩ := h8 x g1 oo
      have ag : agC (rws I (lo + 1 + 25 + 20 * x.toNat)) (rws I' (lo + 1 + 25 + 20 * x.toNat)) := agC_r (fun f hf => fI _ (by omega) (by omega) (by omega))
      exact ⟨CV_ag ag u1, RCt_A (CV_ag ag u1) (fun j z1 z2 => aF j (by omega) (by omega)) (RCt_ag ag u1 u2)⟩
    · rw [fI (lo + 1 + 20) (by omega) (by omega) (by omega), fI (lo + 1 + 40) (by omega) (by omega) (by omega)]
      exact h9
  · have ea : adT lo 1 v = lo + 21 + 20 * v.toNat := rfl
    have es : szT 1 = 2 := rfl
    have ep : plQ 1 v = 940 + 14 * v := rfl
    have ez : szQ 1 = 14 := rfl
    rw [ea] at hg
    rw [ea, es] at fI
    rw [ep, ez] at aF hA
    refine ⟨k1, k2, k3, k4, fun x g1 g2 => ?_, fun x g1 g2 => ?_, fun x g1 g2 => ?_, fun x g1 g2 => ?_, ?_⟩
    · have oo := old 0 x (by omega) (by omega) g1 g2 (fun z => absurd z.1 (by decide))
      obtain ⟨u1, u2⟩ := h5 x g1 oo
      have ag : agS (rws I (lo + 1 + 7 + 20 * x.toNat)) (rws I' (lo + 1 + 7 + 20 * x.toNat)) := agS_r (fun f hf => fI _ (by omega) (by omega) (by omega))
      exact ⟨SV5_ag ag u1, RSt_A (SV5_ag ag u1) (fun j z1 z2 => aF j (by omega) (by omega)) (RSt_ag ag u1 u2)⟩
    · by_cases xv : x = v
      · subst xv
        have hv5 := hD.2.1 rfl
        have ag : agL D.1 (rws I' (lo + 1 + 20 + 20 * x.toNat)) := hg.2.1 rfl
        exact ⟨LV_ag ag hv5, RLt_ag ag (RLt_new hA (hX.2.1 rfl))⟩
      · have oo := old 1 x (by omega) (by omega) g1 g2 (fun z => xv z.2)
        obtain ⟨u1, u2⟩ := h6 x g1 oo
        have ag : agL (rws I (lo + 1 + 20 + 20 * x.toNat)) (rws I' (lo + 1 + 20 + 20 * x.toNat)) := agL_r (fun f hf => fI _ (by omega) (by omega) (by omega))
        exact ⟨LV_ag ag u1, RLt_A (fun j z1 z2 => aF j (by omega) (by omega)) (RLt_ag ag u2)⟩
    · have oo := old 2 x (by omega) (by omega) g1 g2 (fun z => absurd z.1 (by decide))
      obtain ⟨u1, u2⟩ := h7 x g1 oo
      have ag : agR (rws I (lo + 1 + 22 + 20 * x.toNat)) (rws I' (lo + 1 + 22 + 20 * x.toNat)) := agR_r (fun f hf => fI _ (by omega) (by omega) (by omega))
      exact ⟨RV_ag ag u1, RQt_A (RV_ag ag u1) (fun j z1 z2 => aF j (by omega) (by omega)) (RQt_ag ag u1 u2)⟩
    · have oo := old 3 x (by omega) (by omega) g1 g2 (fun z => absurd z.1 (by decide))
      obtain ⟨u1, u2⟩ := h8 x g1 oo
      have ag : agC (rws I (lo + 1 + 25 + 20 * x.toNat)) (rws I' (lo + 1 + 25 + 20 * x.toNat)) := agC_r (fun f hf => fI _ (by omega) (by omega) (by omega))
      exact ⟨CV_ag ag u1, RCt_A (CV_ag ag u1) (fun j z1 z2 => aF j (by omega) (by omega)) (RCt_ag ag u1 u2)⟩
    · have e4 : 0 ≤ I' (lo + 21 + 20 * v.toNat) 4 ∧ I' (lo + 21 + 20 * v.toNat) 4 ≤ 1 := by
        have l := (LV_ag (hg.2.1 rfl) (hD.2.1 rfl)).1
        exact l.2.2.2.2.2.2.2.2
      rcases x2 v v2.1 v2.2 with e | e
      · rw [e] at e4 fI
        have e4' : 0 ≤ I' (lo + 1 + 20) 4 ∧ I' (lo + 1 + 20) 4 ≤ 1 := e4
        rw [fI (lo + 1 + 40) (by omega) (by omega) (by omega)]
        exact ⟨by omega, h9.2⟩
      · rw [e] at e4 fI
        have e4' : 0 ≤ I' (lo + 1 + 40) 4 ∧ I' (lo + 1 + 40) 4 ≤ 1 := e4
        rw [fI (lo + 1 + 20) (by omega) (by omega) (by omega)]
        exact ⟨h9.1, by omega⟩
  · have ea : adT lo 2 v = lo + 23 + 20 * v.toNat := rfl
    have es : szT 2 = 3 := rfl
    have ep : plQ 2 v = 968 + 83 * v := rfl
    have ez : szQ 2 = 83 := rfl
    rw [ea] at hg
    rw [ea, es] at fI
    rw [ep, ez] at aF hA
    refine ⟨k1, k2, k3, k4, fun x g1 g2 => ?_, fun x g1 g2 => ?_, fun x g1 g2 => ?_, fun x g1 g2 => ?_, ?_⟩
    · have oo := old 0 x (by omega) (by omega) g1 g2 (fun z => absurd z.1 (by decide))
      obtain ⟨u1, u2⟩ := h5 x g1 oo
      have ag : agS (rws I (lo + 1 + 7 + 20 * x.toNat)) (rws I' (lo + 1 + 7 + 20 * x.toNat)) := agS_r (fun f hf => fI _ (by omega) (by omega) (by omega))
      exact ⟨SV5_ag ag u1, RSt_A (SV5_ag ag u1) (fun j z1 z2 => aF j (by omega) (by omega)) (RSt_ag ag u1 u2)⟩
    · have oo := old 1 x (by omega) (by omega) g1 g2 (fun z => absurd z.1 (by decide))
      obtain ⟨u1, u2⟩ := h6 x g1 oo
      have ag : agL (rws I (lo + 1 + 20 + 20 * x.toNat)) (rws I' (lo + 1 + 20 + 20 * x.toNat)) := agL_r (fun f hf => fI _ (by omega) (by omega) (by omega))
      exact ⟨LV_ag ag u1, RLt_A (fun j z1 z2 => aF j (by omega) (by omega)) (RLt_ag ag u2)⟩
    · by_cases xv : x = v
      · subst xv
        have hv5 := hD.2.2.1 rfl
        have ag : agR D.1 (rws I' (lo + 1 + 22 + 20 * x.toNat)) := hg.2.2.1 rfl
        exact ⟨RV_ag ag hv5, RQt_ag ag hv5 (RQt_new hA hv5 (hX.2.2.1 rfl))⟩
      · have oo := old 2 x (by omega) (by omega) g1 g2 (fun z => xv z.2)
        obtain ⟨u1, u2⟩ := h7 x g1 oo
        have ag : agR (rws I (lo + 1 + 22 + 20 * x.toNat)) (rws I' (lo + 1 + 22 + 20 * x.toNat)) := agR_r (fun f hf => fI _ (by omega) (by omega) (by omega))
        exact ⟨RV_ag ag u1, RQt_A (RV_ag ag u1) (fun j z1 z2 => aF j (by omega) (by omega)) (RQt_ag ag u1 u2)⟩
    · have oo := old 3 x (by omega) (by omega) g1 g2 (fun z => absurd z.1 (by decide))
      obtain ⟨u1, u2⟩ := h8 x g1 oo
      have ag : agC (rws I (lo + 1 + 25 + 20 * x.toNat)) (rws I' (lo + 1 + 25 + 20 * x.toNat)) := agC_r (fun f hf => fI _ (by omega) (by omega) (by omega))
      exact ⟨CV_ag ag u1, RCt_A (CV_ag ag u1) (fun j z1 z2 => aF j (by omega) (by omega)) (RCt_ag ag u1 u2)⟩
    · rw [fI (lo + 1 + 20) (by omega) (by omega) (by omega), fI (lo + 1 + 40) (by omega) (by omega) (by omega)]
      exact h9
  · have ea : adT lo 3 v = lo + 26 + 20 * v.toNat := rfl
    have es : szT 3 = 2 := rfl
    have ep : plQ 3 v = 1134 + 9 * v := rfl
    have ez : szQ 3 = 9 := rfl
    rw [ea] at hg
    rw [ea, es] at fI
    rw [ep, ez] at aF hA
    refine ⟨k1, k2, k3, k4, fun x g1 g2 => ?_, fun x g1 g2 => ?_, fun x g1 g2 => ?_, fun x g1 g2 => ?_, ?_⟩
    · have oo := old 0 x (by omega) (by omega) g1 g2 (fun z => absurd z.1 (by decide))
      obtain ⟨u1, u2⟩ := h5 x g1 oo
      have ag : agS (rws I (lo + 1 + 7 + 20 * x.toNat)) (rws I' (lo + 1 + 7 + 20 * x.toNat)) := agS_r (fun f hf => fI _ (by omega) (by omega) (by omega))
      exact ⟨SV5_ag ag u1, RSt_A (SV5_ag ag u1) (fun j z1 z2 => aF j (by omega) (by omega)) (RSt_ag ag u1 u2)⟩
    · have oo := old 1 x (by omega) (by omega) g1 g2 (fun z => absurd z.1 (by decide))
      obtain ⟨u1, u2⟩ := h6 x g1 oo
      have ag : agL (rws I (lo + 1 + 20 + 20 * x.toNat)) (rws I' (lo + 1 + 20 + 20 * x.toNat)) := agL_r (fun f hf => fI _ (by omega) (by omega) (by omega))
      exact ⟨LV_ag ag u1, RLt_A (fun j z1 z2 => aF j (by omega) (by omega)) (RLt_ag ag u2)⟩
    · have oo := old 2 x (by omega) (by omega) g1 g2 (fun z => absurd z.1 (by decide))
      obtain ⟨u1, u2⟩ := h7 x g1 oo
      have ag : agR (rws I (lo + 1 + 22 + 20 * x.toNat)) (rws I' (lo + 1 + 22 + 20 * x.toNat)) := agR_r (fun f hf => fI _ (by omega) (by omega) (by omega))
      exact ⟨RV_ag ag u1, RQt_A (RV_ag ag u1) (fun j z1 z2 => aF j (by omega) (by omega)) (RQt_ag ag u1 u2)⟩
    · by_cases xv : x = v
      · subst xv
        have hv5 := hD.2.2.2 rfl
        have ag : agC D.1 (rws I' (lo + 1 + 25 + 20 * x.toNat)) := hg.2.2.2 rfl
        exact ⟨CV_ag ag hv5, RCt_ag ag hv5 (RCt_new hA hv5 (hX.2.2.2 rfl))⟩
      · have oo := old 3 x (by omega) (by omega) g1 g2 (fun z => xv z.2)
        obtain ⟨u1, u2⟩ := h8 x g1 oo
        have ag : agC (rws I (lo + 1 + 25 + 20 * x.toNat)) (rws I' (lo + 1 + 25 + 20 * x.toNat)) := agC_r (fun f hf => fI _ (by omega) (by omega) (by omega))
        exact ⟨CV_ag ag u1, RCt_A (CV_ag ag u1) (fun j z1 z2 => aF j (by omega) (by omega)) (RCt_ag ag u1 u2)⟩
    · rw [fI (lo + 1 + 20) (by omega) (by omega) (by omega), fI (lo + 1 + 40) (by omega) (by omega) (by omega)]
      exact h9
end TELL
