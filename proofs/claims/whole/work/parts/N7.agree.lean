/-! STREETS that agree where they are read -/
def agW (S S' : Nat → Int → Int) : Prop := (S' 0 0 = S 0 0 ∧ S' 0 1 = S 0 1 ∧ S' 0 3 = S 0 3 ∧ S' 0 13 = S 0 13) ∧ (∀ i, 0 ≤ i → i < 64 → S' 1 i = S 1 i) ∧ (∀ f : Nat, 2 ≤ f → f ≤ 10 → ∀ j, 0 ≤ j → j < S 0 3 → S' f j = S f j) ∧ ∀ i, 0 ≤ i → i < S 0 13 → S' 11 i = S 11 i ∧ S' 12 i = S 12 i
theorem agW_S {S S' : Nat → Int → Int} (h : agS S S') (hV : SV S) : agW S S' := by
  have v := hV.1
  exact ⟨h.1, h.2.1, fun f a b j c e => h.2.2 f a (by omega) j c (by omega), fun i a b => ⟨h.2.2 11 (by omega) (by omega) i a (by omega), h.2.2 12 (by omega) (by omega) i a (by omega)⟩⟩
theorem agW_V {S S' : Nat → Int → Int} (h : agW S S') (hV : SV S) : SV S' := by
  obtain ⟨⟨a0, a1, a3, a13⟩, b, c, e⟩ := h
  obtain ⟨v1, v2, v3, v4⟩ := hV
  refine ⟨by rw [a0, a1, a3, a13]; exact v1, fun i q1 q2 => by rw [b i q1 q2]; exact v2 i q1 q2, fun k q1 q2 => ?_, fun i q1 q2 => ?_⟩
  · rw [a3] at q2
    rw [c 2 (by omega) (by omega) k q1 q2, c 3 (by omega) (by omega) k q1 q2, c 4 (by omega) (by omega) k q1 q2, c 5 (by omega) (by omega) k q1 q2, c 6 (by omega) (by omega) k q1 q2, c 7 (by omega) (by omega) k q1 q2, c 8 (by omega) (by omega) k q1 q2, c 9 (by omega) (by omega) k q1 q2, c 10 (by omega) (by omega) k q1 q2]
    exact v3 k q1 q2
  · rw [a13] at q2
    rw [(e i q1 q2).1, (e i q1 q2).2]
    exact v4 i q1 q2
section AG
variable {S S' L T : Nat → Int → Int} {k u w x y a b al : Int} {si : Int → Int}
theorem ag_wb (h : agW S S') : wbS S' k x y = wbS S k x y := by
  unfold wbS
  rw [h.1.2.2.2]
  refine sm_congr _ _ (fun i q1 q2 => ?_)
  unfold wb1
  rw [(h.2.2.2 i q1 q2).1, (h.2.2.2 i q1 q2).2]
theorem ag_up (h : agW S S') (hk : 0 ≤ k ∧ k < S 0 3) : upS S' k = upS S k := by
  unfold upS
  rw [h.2.2.1 6 (by omega) (by omega) k hk.1 hk.2, ag_wb h]
theorem ag_po (h : agW S S') (hk : 0 ≤ k ∧ k < S 0 3) : poS S' k u = poS S k u := by
  unfold poS
  rw [h.2.2.1 9 (by omega) (by omega) k hk.1 hk.2]
theorem ag_as (h : agW S S') (hk : 0 ≤ k ∧ k < S 0 3) : asS S' k u = asS S k u := by
  unfold asS
  rw [h.2.2.1 5 (by omega) (by omega) k hk.1 hk.2, ag_up h hk]
theorem ag_ds (h : agW S S') (hk : 0 ≤ k ∧ k < S 0 3) : dsS S' k u w = dsS S k u w := by
  unfold dsS
  simp only [ag_po h hk, ag_wb h, h.2.2.1 8 (by omega) (by omega) k hk.1 hk.2, h.2.2.1 7 (by omega) (by omega) k hk.1 hk.2, h.2.2.1 2 (by omega) (by omega) k hk.1 hk.2]
theorem ag_si (h : agW S S') (hk : 0 ≤ k ∧ k < S 0 3) : siS S' k = siS S k := by
  unfold siS
  rw [h.1.2.2.1]
  exact fi_congr _ _ (fun j q1 q2 => by rw [h.2.2.1 10 (by omega) (by omega) j q1 q2, h.2.2.1 2 (by omega) (by omega) k hk.1 hk.2])
theorem ag_wk (h : agW S S') (hV : SV S) (hT : TV T) (hk : 0 ≤ k ∧ k < S 0 3) (hu : 0 ≤ u ∧ u < 36) : wkS S' T k u = wkS S T k u := by
  have v := hV.2.2.1 k hk.1 hk.2
  have t := hT.2.1 u hu.1 hu.2
  unfold wkS
  by_cases c : T 1 u = -1
  · rw [decide_eq_false (fun z => z.1 c), decide_eq_false (fun z => z.1 c)]
  · rw [h.2.2.1 3 (by omega) (by omega) k hk.1 hk.2, h.1.2.1, h.2.1 (S 3 k * 8 + T 1 u) (by omega) (by omega)]
theorem ag_lw (h : agW S S') (hV : SV S) (hT : TV T) (hk : 0 ≤ k ∧ k < S 0 3) (hu : u < 36) : lwS S' T k u = lwS S T k u := fo_congr _ _ _ (fun i x q1 q2 => by rw [ag_wk h hV hT hk (by omega), ag_as h hk])
theorem ag_se (h : agW S S') (hk : 0 ≤ k ∧ k < S 0 3) : seR S' al a b w k u = seR S al a b w k u := by
  unfold seR
  simp only [ag_as h hk, h.2.2.1 5 (by omega) (by omega) k hk.1 hk.2]
theorem ag_dp {W W' : Int → Int} (h : agW S S') (hk : 0 ≤ k ∧ k < S 0 3) (hw : W' k = W k) : dpR S' al a b W' k u = dpR S al a b W k u := by
  unfold dpR
  rw [ag_as h hk, ag_se h hk, ag_ds h hk, hw]
theorem ag_rd (h : agW S S') (hV : SV S) (hT : TV T) (hk : 0 ≤ k ∧ k < S 0 3) (hu : 0 ≤ u ∧ u < 36) (hs : -1 ≤ si k ∧ si k < S 0 3) : rdT S' al a b si T k u = rdT S al a b si T k u := by
  unfold rdT rqR
  rw [ag_as h hk, h.2.2.1 2 (by omega) (by omega) k hk.1 hk.2, ag_dp (W := fun j => lwS S T j u) (W' := fun j => lwS S' T j u) h hk (ag_lw h hV hT hk hu.2)]
  by_cases c : si k = -1
  · rw [if_pos (Or.inr c : S 2 k ≠ 3 ∨ si k = -1), if_pos (Or.inr c : S 2 k ≠ 3 ∨ si k = -1)]
  · rw [ag_dp (k := si k) (W := fun j => lwS S T j u) (W' := fun j => lwS S' T j u) h (by omega) (ag_lw h hV hT (by omega) hu.2)]
theorem ag_rdN (h : agW S S') (hV : SV S) (hT : TV T) (hk : 0 ≤ k ∧ k < S 0 3) (hu : 0 ≤ u ∧ u < 36) (hs : -1 ≤ si k ∧ si k < S 0 3) : rdN S' si T k u = rdN S si T k u := ag_rd h hV hT hk hu hs
theorem ag_cg {r r' : Int → Int} (h : agW S S') (hk : 0 ≤ k ∧ k < S 0 3) (hr : ∀ j, 0 ≤ j → j < S 0 3 → r' j = r j) : cgG S' L r' k u = cgG S L r k u := by
  unfold cgG
  rw [h.1.2.2.1, hr k hk.1 hk.2, ag_po h hk, h.2.2.1 3 (by omega) (by omega) k hk.1 hk.2]
  have e : mx (fun j => decide (S' 3 j = S 3 k ∧ S' 4 j = S' 4 k)) r' (S 0 3) = mx (fun j => decide (S 3 j = S 3 k ∧ S 4 j = S 4 k)) r (S 0 3) := fo_congr _ _ _ (fun j x q1 q2 => by
    simp only [hr j q1 q2, h.2.2.1 3 (by omega) (by omega) j q1 q2, h.2.2.1 4 (by omega) (by omega) j q1 q2, h.2.2.1 4 (by omega) (by omega) k hk.1 hk.2])
  rw [e]
theorem ag_ct {rd rd' : Int → Int → Int} (h : agW S S') (hk : 0 ≤ k ∧ k < S 0 3) (hu : 0 ≤ u ∧ u < 36) (hr : ∀ j u, 0 ≤ j → j < S 0 3 → 0 ≤ u → u < 36 → rd' j u = rd j u) : ctT S' L T rd' k u = ctT S L T rd k u := by
  unfold ctT
  rw [ag_cg (r := fun i => rd i u) (r' := fun i => rd' i u) h hk (fun j q1 q2 => hr j u q1 q2 hu.1 hu.2), h.2.2.1 3 (by omega) (by omega) k hk.1 hk.2]
theorem ag_due {rd rd' : Int → Int → Int} (h : agW S S') (hk : 0 ≤ k ∧ k < S 0 3) (hr : ∀ j u, 0 ≤ j → j < S 0 3 → 0 ≤ u → u < 36 → rd' j u = rd j u) : dueT S' L T rd' k = dueT S L T rd k := by
  unfold dueT
  rw [sm_congr (ctT S' L T rd' k) (ctT S L T rd k) (fun u q1 q2 => ag_ct h hk ⟨q1, q2⟩ hr)]
theorem ag_ab {rd rd' : Int → Int → Int} (h : agW S S') (hk : 0 ≤ k ∧ k < S 0 3) (hu : 0 ≤ u ∧ u < 36) (hr : ∀ j u, 0 ≤ j → j < S 0 3 → 0 ≤ u → u < 36 → rd' j u = rd j u) : abT S' L T rd' u k = abT S L T rd u k := by
  unfold abT
  rw [h.2.2.1 3 (by omega) (by omega) k hk.1 hk.2, hr k u hk.1 hk.2 hu.1 hu.2]
end AG
