/-! WHAT HOLDS OF THE READER IS KEPT -/
theorem nuQ_999 {B : Int → Int} {w : Int} : ∀ k : Nat, (∀ i, 0 ≤ i → i < (k : Int) → 48 ≤ B (w + i) ∧ B (w + i) ≤ 57) → 0 ≤ nuQ B w k ∧ nuQ B w k ≤ 999 := by
  intro k
  induction k with
  | zero => intro _; exact nuQ_b (k := 0) (by omega) (fun i g1 g2 => by omega)
  | succ k ih =>
    intro h
    by_cases c : k + 1 ≤ 3
    · exact nuQ_b ⟨by omega, by omega⟩ h
    · rw [show ((k + 1 : Nat) : Int) = (k : Int) + 1 from rfl, nuQ_s (by omega), if_neg (by omega)]
      exact ih (fun i g1 g2 => h i g1 (by omega))
theorem wdC_b {B : Int → Int} {w e : Int} : 1 ≤ wdC B w e ∧ wdC B w e ≤ 99 := by
  unfold wdC
  split
  · unfold wo wa
    repeat' (first | omega | split)
  · omega
theorem tW_b {B : Int → Int} {n p : Int} (hn : 0 ≤ n ∧ n ≤ 600) (hp : 0 ≤ p ∧ p ≤ 600) : 0 ≤ tW B n p ∧ tW B n p ≤ 600 := by
  obtain ⟨h1, h2, _, _⟩ := rn_sp (fun j => bL (B j)) n _ p rfl
  unfold tW
  omega
theorem tE_b {B : Int → Int} {n w : Int} (hn : 0 ≤ n ∧ n ≤ 600) (hw : 0 ≤ w ∧ w ≤ 600) : 0 ≤ tE B n w ∧ tE B n w ≤ 600 := by
  obtain ⟨h1, h2, _, _⟩ := rn_sp (fun j => lT (B j)) n _ w rfl
  obtain ⟨k1, k2, _, _⟩ := rn_sp (fun j => dG (B j)) n _ w rfl
  unfold tE
  split
  · omega
  · split
    · omega
    · split <;> omega
theorem tT_b {B : Int → Int} {n w : Int} : 0 ≤ tT B n w ∧ tT B n w ≤ 4 := by
  unfold tT
  repeat' (first | omega | split)
theorem RIn_adv {M : Nat → Int → Int} (h : RIn M) : RIn (advM M) := by
  obtain ⟨⟨i1, i2⟩, i3, i4, i5, i6, i7, i8⟩ := h
  obtain ⟨w, hw⟩ : ∃ w, w = tW (tpB M) (M 0 2) (M 0 3) := ⟨_, rfl⟩
  rw [advM_eq rfl rfl hw]
  have w1 := tW_b (B := tpB M) i1 i2
  rw [← hw] at w1
  have e1 := tE_b (B := tpB M) i1 w1
  have t1 := tT_b (B := tpB M) (n := M 0 2) (w := w)
  refine ⟨⟨by rw [rdM_g2]; exact i1, by rw [rdM_g3]; exact e1⟩, ?_, by rw [rdM_g8 (by omega)]; exact i4, by rw [rdM_g4]; exact w1, by rw [rdM_g5]; exact t1, ⟨?_, ?_⟩, ?_, ?_⟩
  · intro j g1 g2
    have := i3 j g1 g2
    unfold tpB at this ⊢
    rw [rdM_c (by decide)]
    exact this
  · rw [rdM_g6]
    split
    · rename_i c
      have eE : tE (tpB M) (M 0 2) w = rn (fun j => dG (tpB M j)) (M 0 2) w := by
        have nl : ¬ lT (tpB M w) = true := fun q => by
          have c2 := c.2
          unfold dG at c2
          unfold lT at q
          rw [decide_eq_true_eq] at c2 q
          omega
        unfold tE
        rw [if_neg (by omega), if_neg nl, if_pos c.2]
      obtain ⟨k1, k2, k3, _⟩ := rn_sp (fun j => dG (tpB M j)) (M 0 2) _ w rfl
      rw [← eE] at k1 k2 k3
      have z := nuQ_999 (B := tpB M) (w := w) (tE (tpB M) (M 0 2) w - w).toNat (fun i g1 g2 => by
        have := (k3 (w + i) (by omega) (by omega)).2
        unfold dG at this
        rw [decide_eq_true_eq] at this
        exact this)
      rw [show ((tE (tpB M) (M 0 2) w - w).toNat : Int) = tE (tpB M) (M 0 2) w - w from by omega] at z
      unfold i32
      omega
    · exact i7.1
  · rw [rdM_g7]
    split
    · have := wdC_b (B := tpB M) (w := w) (e := tE (tpB M) (M 0 2) w)
      unfold i32
      omega
    · exact i7.2
  · rw [rdM_c (by decide)]; exact i8.1
  · rw [rdM_c (by decide)]; exact i8.2
theorem RIn_also {M : Nat → Int → Int} {k p : Int} (h : RIn M) (hk : i32 k ∧ i32 p) : RIn (alsoM M k p) := by
  obtain ⟨i1, i3, i4, i5, i6, i7, i8⟩ := h
  obtain ⟨o1, _, o2⟩ := alsoM_f (M := M) (k := k) (p := p)
  refine ⟨by rw [o1]; exact i1, fun j g1 g2 => by rw [o2 j g1]; exact i3 j g1 g2, by rw [o1]; exact i4, by rw [o1]; exact i5, by rw [o1]; exact i6, by rw [o1]; exact i7, ?_⟩
  unfold alsoM
  split
  · exact ⟨by rw [u3_n (by omega), u3_s]; exact hk.1, by rw [u3_s]; exact hk.2⟩
  · exact i8
theorem RIn_ends {M : Nat → Int → Int} (h : RIn M) : RIn (endsM M) := by
  have h' := h
  obtain ⟨⟨i1, i2⟩, i3, i4, i5, i6, i7, i8⟩ := h
  unfold endsM
  split
  · refine ⟨⟨?_, ?_⟩, fun j g1 g2 => ?_, ?_, ?_, ?_, ⟨?_, ?_⟩, ?_, ?_⟩
    · rw [u3_n (by omega), u3_n (by omega), u3_n (by omega)]; exact i1
    · rw [u3_n (by omega), u3_n (by omega), u3_n (by omega)]; exact i2
    · have := i3 j g1 g2
      unfold tpB at this ⊢
      rw [u3_n (by omega), u3_n (by omega), u3_n (by omega)]
      exact this
    · rw [u3_n (by omega), u3_n (by omega), u3_s]; omega
    · rw [u3_n (by omega), u3_n (by omega), u3_n (by omega)]; exact i5
    · rw [u3_n (by omega), u3_n (by omega), u3_n (by omega)]; exact i6
    · rw [u3_n (by omega), u3_n (by omega), u3_n (by omega)]; exact i7.1
    · rw [u3_n (by omega), u3_n (by omega), u3_n (by omega)]; exact i7.2
    · rw [u3_n (by omega), u3_s]; unfold i32; omega
    · rw [u3_s]; unfold i32; omega
  · exact h'
theorem RIn_nm {M : Nat → Int → Int} {x y : Int} (h : RIn M) : RIn (nmM M x y) := by
  have i5 := h.2.2.2.1
  unfold nmM
  split
  · split
    · exact RIn_adv h
    · exact RIn_adv (RIn_also h ⟨by unfold i32; omega, by unfold i32; omega⟩)
  · exact RIn_ends h
theorem RIn_tk {M : Nat → Int → Int} {x y : Int} (h : RIn M) : RIn (tkM M x y) := by
  unfold tkM
  split
  · exact RIn_adv h
  · exact RIn_ends h
theorem RIn_el {M : Nat → Int → Int} (h : RIn M) : RIn (elM M) := by
  unfold elM
  split
  · exact RIn_adv h
  · exact RIn_ends h
