/-! THE READER, as one speaks of it: which token, where -/
theorem rnF_congr {P Q : Int → Bool} {n : Int} : ∀ (k : Nat) (p : Int), (∀ i, p ≤ i → i < n → P i = Q i) → rnF P n k p = rnF Q n k p
  | 0, _, _ => rfl
  | k + 1, p, h => by
    show (if p < n ∧ P p = true then rnF P n k (p + 1) else p) = (if p < n ∧ Q p = true then rnF Q n k (p + 1) else p)
    by_cases c : p < n
    · rw [h p (by omega) c, rnF_congr k (p + 1) (fun i a b => h i (by omega) b)]
    · rw [if_neg (fun z => c z.1), if_neg (fun z => c z.1)]
section TOKENS
variable {B B' : Int → Int} {n p w : Int}
theorem rn_c (f : Int → Bool) (h : ∀ j, 0 ≤ j → B j = B' j) (hp : 0 ≤ p) : rn (fun j => f (B j)) n p = rn (fun j => f (B' j)) n p := rnF_congr _ _ (fun i a b => by rw [h i (by omega)])
theorem tW_c (h : ∀ j, 0 ≤ j → B j = B' j) (hp : 0 ≤ p) : tW B n p = tW B' n p := rn_c bL h hp
theorem tE_c (h : ∀ j, 0 ≤ j → B j = B' j) (hw : 0 ≤ w) : tE B n w = tE B' n w := by
  unfold tE
  rw [h w hw, rn_c lT h hw, rn_c dG h hw]
theorem cdQ_c (h : ∀ j, 0 ≤ j → B j = B' j) (hw : 0 ≤ w) (k : Int) : cdQ B w k = cdQ B' w k := fo_congr _ _ _ (fun i x h1 h2 => by rw [h (w + i) (by omega)])
theorem nuQ_c (h : ∀ j, 0 ≤ j → B j = B' j) (hw : 0 ≤ w) (k : Int) : nuQ B w k = nuQ B' w k := fo_congr _ _ _ (fun i x h1 h2 => by rw [h (w + i) (by omega)])
theorem wdC_c (h : ∀ j, 0 ≤ j → B j = B' j) (hw : 0 ≤ w) (e : Int) : wdC B w e = wdC B' w e := by
  unfold wdC
  rw [cdQ_c h hw]
theorem tT_c (h : ∀ j, 0 ≤ j → B j = B' j) (hw : 0 ≤ w) : tT B n w = tT B' n w := by
  unfold tT
  rw [h w hw, tE_c h hw, wdC_c h hw]
theorem tE_n (hw : 0 ≤ w ∧ w ≤ n) : w ≤ tE B n w ∧ tE B n w ≤ n ∧ (w < n → w < tE B n w) := by
  unfold tE
  by_cases c : n ≤ w
  · rw [if_pos c]; omega
  · rw [if_neg c]
    by_cases c1 : lT (B w) = true
    · rw [if_pos c1]
      obtain ⟨h1, h2, _, _⟩ := rn_sp (fun j => lT (B j)) n _ w rfl
      obtain ⟨k1, _, _, _⟩ := rn_sp (fun j => lT (B j)) n _ (w + 1) rfl
      have e : rn (fun j => lT (B j)) n w = rn (fun j => lT (B j)) n (w + 1) := rn_y ⟨by omega, c1⟩
      omega
    · rw [if_neg c1]
      by_cases c2 : dG (B w) = true
      · rw [if_pos c2]
        obtain ⟨h1, h2, _, _⟩ := rn_sp (fun j => dG (B j)) n _ w rfl
        obtain ⟨k1, _, _, _⟩ := rn_sp (fun j => dG (B j)) n _ (w + 1) rfl
        have e : rn (fun j => dG (B j)) n w = rn (fun j => dG (B j)) n (w + 1) := rn_y ⟨by omega, c2⟩
        omega
      · rw [if_neg c2]; omega
/-- where the token behind the one at w begins; the number there -/
def nx (B : Int → Int) (n w : Int) : Int := tW B n (tE B n w)
def nv (B : Int → Int) (n w : Int) : Int := nuQ B w (tE B n w - w)
theorem tW_n (hp : 0 ≤ p ∧ p ≤ n) : p ≤ tW B n p ∧ tW B n p ≤ n := by
  obtain ⟨h1, h2, _, _⟩ := rn_sp (fun j => bL (B j)) n _ p rfl
  unfold tW
  omega
theorem nx_n (hw : 0 ≤ w ∧ w ≤ n) : w ≤ nx B n w ∧ nx B n w ≤ n ∧ (w < n → w < nx B n w) := by
  have h1 := tE_n (B := B) hw
  have h2 := tW_n (B := B) (p := tE B n w) (n := n) (by omega)
  unfold nx
  omega
theorem tT_0 (h : tT B n w = 0) : n ≤ w := by
  by_cases c : n ≤ w
  · exact c
  · unfold tT at h
    rw [if_neg c] at h
    exfalso
    revert h
    repeat' (first | omega | split)
theorem tT_1 (h : tT B n w = 1) : w < n ∧ dG (B w) = true ∧ lT (B w) = false ∧ tE B n w - w ≤ 3 := by
  unfold tT at h
  by_cases c : n ≤ w
  · rw [if_pos c] at h; omega
  · rw [if_neg c] at h
    by_cases c1 : lT (B w) = true
    · rw [if_pos c1] at h
      split at h <;> omega
    · rw [if_neg c1] at h
      by_cases c2 : dG (B w) = true
      · rw [if_pos c2] at h
        split at h
        · exact ⟨by omega, c2, Bool.eq_false_iff.mpr c1, by assumption⟩
        · omega
      · rw [if_neg c2] at h
        split at h <;> omega
theorem tT_3 (h : tT B n w = 3) : w < n ∧ lT (B w) = true ∧ ¬ wdC B w (tE B n w) = 99 := by
  unfold tT at h
  by_cases c : n ≤ w
  · rw [if_pos c] at h; omega
  · rw [if_neg c] at h
    by_cases c1 : lT (B w) = true
    · rw [if_pos c1] at h
      split at h
      · omega
      · exact ⟨by omega, c1, by assumption⟩
    · rw [if_neg c1] at h
      by_cases c2 : dG (B w) = true
      · rw [if_pos c2] at h
        split at h <;> omega
      · rw [if_neg c2] at h
        split at h <;> omega
theorem tT_n (h : ¬ tT B n w = 0) : w < n := by
  by_cases c : n ≤ w
  · exact absurd (if_pos c) h
  · omega
/-- the class's sort of a token by the reference's -/
theorem tK_T (B : Int → Int) (n w : Int) : (tK B n w = 0) = (tT B n w = 0) ∧ (tK B n w = 2) = (tT B n w = 1) ∧ (tK B n w = 3) = (tT B n w = 2) ∧ (tT B n w = 3 → tK B n w = 1) ∧ (tK B n w = 1 → w < n ∧ lT (B w) = true ∧ (tT B n w = 3 ∨ tT B n w = 4 ∧ wdC B w (tE B n w) = 99)) := by
  unfold tK tT
  by_cases c : n ≤ w
  · rw [if_pos c, if_pos c]; simp
  · rw [if_neg c, if_neg c]
    by_cases c1 : lT (B w) = true
    · rw [if_pos c1, if_pos c1]
      split <;> simp [*] <;> omega
    · rw [if_neg c1, if_neg c1]
      by_cases c2 : dG (B w) = true
      · rw [if_pos c2, if_pos c2]
        split <;> simp
      · rw [if_neg c2, if_neg c2]
        split <;> simp
theorem nv_b (h : tT B n w = 1) : 0 ≤ nv B n w ∧ nv B n w ≤ 999 := by
  obtain ⟨h1, h2, h3, h4⟩ := tT_1 h
  obtain ⟨k1, k2, k3, _⟩ := rn_sp (fun j => dG (B j)) n _ w rfl
  have eE : tE B n w = rn (fun j => dG (B j)) n w := by
    unfold tE
    rw [if_neg (by omega), h3, if_neg (by decide), if_pos h2]
  rw [← eE] at k1 k2 k3
  exact nuQ_b ⟨by omega, h4⟩ (fun i g1 g2 => by
    have := (k3 (w + i) (by omega) (by omega)).2
    unfold dG at this
    rw [decide_eq_true_eq] at this
    exact this)
end TOKENS
/-- the reference's reader stands at the token at w -/
def OKb (B : Int → Int) (n : Int) (M : Nat → Int → Int) (w : Int) : Prop := (M 0 2 = n ∧ ∀ j, 0 ≤ j → tpB M j = B j) ∧ (0 ≤ w ∧ w ≤ n) ∧ M 0 3 = tE B n w ∧ M 0 4 = w ∧ M 0 5 = tT B n w ∧ (tT B n w = 1 → M 0 6 = nv B n w) ∧ (tT B n w = 3 → M 0 7 = wdC B w (tE B n w))
theorem adv_at {B : Int → Int} {n p : Int} {M : Nat → Int → Int} (h2 : M 0 2 = n) (hb : ∀ j, 0 ≤ j → tpB M j = B j) (h3 : M 0 3 = p) (hp : 0 ≤ p ∧ p ≤ n) : OKb B n (advM M) (tW B n p) := by
  have w0 := tW_n (B := B) (n := n) (p := p) hp
  have eW : tW (tpB M) (M 0 2) (M 0 3) = tW B n p := by rw [h2, h3, tW_c hb hp.1]
  obtain ⟨w, hw⟩ : ∃ w, w = tW B n p := ⟨_, rfl⟩
  rw [← hw] at w0 eW ⊢
  have wn : 0 ≤ w := by omega
  rw [advM_eq (B := tpB M) (n := M 0 2) (w := w) rfl rfl eW.symm, h2, tE_c hb wn, tT_c hb wn, hb w wn, nuQ_c hb wn, wdC_c hb wn]
  refine ⟨⟨by rw [rdM_g2]; exact h2, fun j hj => ?_⟩, by omega, rdM_g3, rdM_g4, rdM_g5, fun ht => ?_, fun ht => ?_⟩
  · rw [← hb j hj]
    unfold tpB
    rw [rdM_c (by decide)]
  · obtain ⟨t1, t2, _, _⟩ := tT_1 ht
    rw [rdM_g6, if_pos ⟨t1, t2⟩]
    rfl
  · obtain ⟨t1, t2, _⟩ := tT_3 ht
    rw [rdM_g7, if_pos ⟨t1, t2⟩]
theorem adv_b {B : Int → Int} {n w : Int} {M : Nat → Int → Int} (h : OKb B n M w) : OKb B n (advM M) (nx B n w) := by
  obtain ⟨⟨h2, hb⟩, hw, h3, _⟩ := h
  have e := tE_n (B := B) hw
  exact adv_at h2 hb h3 (by omega)
theorem OKb_u {B : Int → Int} {n w : Int} {M M' : Nat → Int → Int} (h : OKb B n M w) (h0 : ∀ j, 2 ≤ j → j ≤ 7 → M' 0 j = M 0 j) (h1 : ∀ j, 10 ≤ j → M' 1 j = M 1 j) : OKb B n M' w := by
  obtain ⟨⟨h2, hb⟩, hw, h3, h4, h5, h6, h7⟩ := h
  refine ⟨⟨by rw [h0 2 (by omega) (by omega)]; exact h2, fun j hj => ?_⟩, hw, by rw [h0 3 (by omega) (by omega)]; exact h3, by rw [h0 4 (by omega) (by omega)]; exact h4, by rw [h0 5 (by omega) (by omega)]; exact h5, by rw [h0 6 (by omega) (by omega)]; exact h6, by rw [h0 7 (by omega) (by omega)]; exact h7⟩
  rw [← hb j hj]
  unfold tpB
  rw [h1 _ (by omega)]
/-- what of the reference a text's reading leaves as it was -/
def FrT (M M' : Nat → Int → Int) : Prop := (∀ j, j ≠ 5 → j ≠ 6 → M' 1 j = M 1 j) ∧ M' 2 = M 2
theorem FrT_r {M : Nat → Int → Int} : FrT M M := ⟨fun _ _ _ => rfl, rfl⟩
theorem FrT_t {M M' M'' : Nat → Int → Int} (h : FrT M M') (k : FrT M' M'') : FrT M M'' := ⟨fun j a b => by rw [k.1 j a b, h.1 j a b], by rw [k.2, h.2]⟩
theorem FrT_u {M : Nat → Int → Int} {c : Nat} {x v : Int} (hc : c ≠ 1 ∧ c ≠ 2) : FrT M (u3 M c x v) := ⟨fun j _ _ => by rw [u3_c (by omega)], by rw [u3_c (by omega)]⟩
theorem FrT_adv {M : Nat → Int → Int} : FrT M (advM M) := ⟨fun j _ _ => by rw [advM_f.2.1 1 (by decide)], advM_f.2.1 2 (by decide)⟩
theorem FrT_also {M : Nat → Int → Int} {k p : Int} : FrT M (alsoM M k p) := by
  refine ⟨fun j a b => ?_, alsoM_c (by decide)⟩
  unfold alsoM
  split
  · rw [u3_n (fun z => b z.2), u3_n (fun z => a z.2)]
  · rfl
theorem FrT_ends {M : Nat → Int → Int} : FrT M (endsM M) := by
  refine ⟨fun j a b => ?_, endsM_f.2.1 2 (by decide)⟩
  unfold endsM
  split
  · rw [u3_n (fun z => b z.2), u3_n (fun z => a z.2), u3_c (by decide)]
  · rfl
theorem FrT_nm {M : Nat → Int → Int} {x y : Int} : FrT M (nmM M x y) := by
  unfold nmM
  split
  · split
    · exact FrT_adv
    · exact FrT_t FrT_also FrT_adv
  · exact FrT_ends
theorem FrT_tk {M : Nat → Int → Int} {x y : Int} : FrT M (tkM M x y) := by
  unfold tkM
  split
  · exact FrT_adv
  · exact FrT_ends
theorem FrT_el {M : Nat → Int → Int} : FrT M (elM M) := by
  unfold elM
  split
  · exact FrT_adv
  · exact FrT_ends
theorem FrT_ht {M : Nat → Int → Int} : FrT M (htM M) := FrT_t FrT_nm (FrT_u (by decide))
theorem FrT_st {M : Nat → Int → Int} : FrT M (stM M) := FrT_t FrT_nm (FrT_u (by decide))
theorem FrT_agn {M : Nat → Int → Int} {a : Int} : FrT M (agnM M a) := by
  unfold agnM
  split
  · exact FrT_also
  · exact FrT_r
theorem FrT_ful {M : Nat → Int → Int} {b : Bool} {p : Int} : FrT M (fulM M b p) := by
  unfold fulM
  split
  · exact FrT_also
  · exact FrT_r
