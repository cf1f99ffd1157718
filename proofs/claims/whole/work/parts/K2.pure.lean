/-! WHAT IS TOLD IS IN ORDER -/
def StI (d : (Nat → Int → Int) × Int × Int) : Prop :=
  (1 ≤ d.1 0 0 ∧ d.1 0 0 ≤ 8 ∧ 0 ≤ d.1 0 1 ∧ d.1 0 1 < 256 ∧ 0 ≤ d.1 0 3 ∧ d.1 0 3 ≤ 9 ∧ 0 ≤ d.1 0 13 ∧ d.1 0 13 ≤ 8)
  ∧ (∀ i, 0 ≤ i → i < 64 → 0 ≤ d.1 1 i ∧ d.1 1 i ≤ 9)
  ∧ (∀ k, 0 ≤ k → k < d.1 0 3 → (0 ≤ d.1 2 k ∧ d.1 2 k ≤ 3) ∧ (0 ≤ d.1 3 k ∧ d.1 3 k ≤ 7) ∧ (0 ≤ d.1 4 k ∧ d.1 4 k ≤ 3) ∧ (0 ≤ d.1 5 k ∧ d.1 5 k ≤ 35) ∧ (1 ≤ d.1 6 k ∧ d.1 6 k ≤ 36 ∧ d.1 5 k < d.1 6 k) ∧ (1 ≤ d.1 7 k ∧ d.1 7 k ≤ 9) ∧ (0 ≤ d.1 8 k ∧ d.1 8 k ≤ 60))
  ∧ (∀ k, 0 ≤ k → k < 9 → (-1 ≤ d.1 9 k ∧ d.1 9 k ≤ 35) ∧ (-1 ≤ d.1 10 k ∧ d.1 10 k ≤ 8) ∧ (d.1 10 k ≠ -1 → p2 (d.1 10 k) ≤ d.2.2))
  ∧ (∀ i, 0 ≤ i → i < d.1 0 13 → (0 ≤ d.1 11 i ∧ d.1 11 i ≤ 8) ∧ (0 ≤ d.1 12 i ∧ d.1 12 i ≤ 35))
  ∧ (0 ≤ d.2.1 ∧ d.2.1 < 256) ∧ (0 ≤ d.2.2 ∧ d.2.2 < 512)
def DI (s : Int) (d : (Nat → Int → Int) × Int × Int) : Prop := (s = 0 → StI d) ∧ (s = 1 → LV d.1) ∧ (s = 2 → RV d.1) ∧ (s = 3 → CV d.1)
def Cl0 (s : Int) (d : (Nat → Int → Int) × Int × Int) : Prop := (s = 0 → (d.2.1 = 0 ∧ d.2.2 = 0) ∧ (d.1 0 0 = 4 ∧ d.1 0 1 = 0 ∧ d.1 0 3 = 0 ∧ d.1 0 13 = 0) ∧ (∀ i, 0 ≤ i → i < 64 → d.1 1 i = 0) ∧ ∀ k, 0 ≤ k → k < 9 → d.1 9 k = -1 ∧ d.1 10 k = -1) ∧ (s = 1 → (d.1 0 0 = 0 ∧ d.1 0 1 = 999 ∧ d.1 0 2 = 0 ∧ d.1 0 3 = 0 ∧ d.1 0 4 = 0) ∧ ∀ w, 0 ≤ w → w < 9 → d.1 1 w = 1) ∧ (s = 2 → d.1 0 0 = 0 ∧ d.1 0 1 = 0 ∧ d.1 0 2 = 0) ∧ (s = 3 → d.1 0 0 = 0)
theorem Cl0_DI {s : Int} {d : (Nat → Int → Int) × Int × Int} (h : Cl0 s d) : DI s d := by
  refine ⟨fun e => ?_, fun e => ?_, fun e => ?_, fun e => ?_⟩
  · obtain ⟨⟨a1, a2⟩, ⟨b1, b2, b3, b4⟩, c, g⟩ := h.1 e
    refine ⟨by omega, fun i x y => by rw [c i x y]; omega, fun k x y => by omega, fun k x y => ?_, fun k x y => by omega, by omega, by omega⟩
    obtain ⟨g1, g2⟩ := g k x y
    exact ⟨by omega, by omega, fun z => absurd g2 z⟩
  · obtain ⟨a, b⟩ := h.2.1 e
    exact ⟨by omega, fun w x y => by rw [b w x y]; omega⟩
  · obtain ⟨a, b, c⟩ := h.2.2.1 e
    exact ⟨by omega, fun i x y => by omega⟩
  · have a := h.2.2.2 e
    exact ⟨by omega, fun i x y => by omega⟩
section PURE
variable {B : Int → Int} {n w s ln i : Int} {q : Int × Int} {d : (Nat → Int → Int) × Int × Int} {V : Int → Int} {f : Bool}
theorem qF_0 {cb : Int → Bool} : ∀ (k : Nat) (i w : Int) (q : Int × Int), (qF cb B n k i w q).1 = 0 → q.1 = 0 ∧ ∀ j, i ≤ j → j < i + k → cb j = true
  | 0, i, w, q, h => ⟨h, fun j a b => by omega⟩
  | k + 1, i, w, q, h => by
    obtain ⟨h1, h2⟩ := qF_0 k (i + 1) (nx B n w) (cq (cb i) q w) h
    obtain ⟨h3, h4⟩ := cq_0 h1
    refine ⟨h3, fun j a b => ?_⟩
    by_cases c : j = i
    · rw [c]; exact h4
    · exact h2 j (by omega) (by omega)
theorem lnQ_ok (h : (lnQ B n w ln f q).1 = 0) : q.1 = 0 ∧ f = false ∧ ∀ i, 0 ≤ i → i < (nOf ln : Int) → cbQ ln i (vv B n (nx B n w)) = true := by
  obtain ⟨h1, h2⟩ := qF_0 _ _ _ _ h
  obtain ⟨h3, h4⟩ := fq_0 h1
  exact ⟨h3, h4, fun i a b => h2 i a (by omega)⟩
theorem p2_9 {v : Int} (h : 0 ≤ v ∧ v ≤ 8) : 0 < p2 v ∧ p2 v < 512 := by
  have h1 := p2_0 v
  have h2 := (p2_lt_iff (a := v) (h := 9) h.1 (by omega)).mpr (by omega)
  have h3 : p2 9 = 512 := by decide
  omega
theorem p2_8 {v : Int} (h : 0 ≤ v ∧ v ≤ 7) : 0 < p2 v ∧ p2 v < 256 := by
  have h1 := p2_0 v
  have h2 := (p2_lt_iff (a := v) (h := 8) h.1 (by omega)).mpr (by omega)
  have h3 : p2 8 = 256 := by decide
  omega
theorem so_256 {a b : Int} (ha : 0 ≤ a ∧ a < 256) (hb : 0 ≤ b ∧ b < 256) : 0 ≤ so a b ∧ so a b < 256 := by
  have h3 : p2 8 = 256 := by decide
  have := so_p2 (s := a) (t := b) (k := 8) (by omega) (by omega)
  omega
theorem so_512 {a b : Int} (ha : 0 ≤ a ∧ a < 512) (hb : 0 ≤ b ∧ b < 512) : 0 ≤ so a b ∧ so a b < 512 := by
  have h3 : p2 9 = 512 := by decide
  have := so_p2 (s := a) (t := b) (k := 9) (by omega) (by omega)
  omega
theorem cbE {a b : Int} (h : cbQ ln i V = true) (h1 : gl loL (gl bAt ln + i) = a) (h2 : gl hiL (gl bAt ln + i) = b) : a ≤ V i ∧ V i ≤ b := by
  unfold cbQ at h
  rw [decide_eq_true_eq, h1, h2] at h
  exact h.1
/-- what a line's numbers are -/
theorem cb_s (hl : 3 ≤ ln ∧ ln ≤ 6) (hcb : ∀ i, 0 ≤ i → i < (nOf ln : Int) → cbQ ln i V = true) : (0 ≤ V 0 ∧ V 0 ≤ 7) ∧ (0 ≤ V 1 ∧ V 1 ≤ 3) ∧ (0 ≤ V 2 ∧ V 2 ≤ 35) ∧ ((1 ≤ V 3 ∧ V 3 ≤ 36) ∧ V 2 < V 3) ∧ (1 ≤ V 4 ∧ V 4 ≤ 9) ∧ (0 ≤ V 5 ∧ V 5 ≤ 60) := by
  have hl4 : ln = 3 ∨ ln = 4 ∨ ln = 5 ∨ ln = 6 := by omega
  have hn : nOf ln = 6 := by rcases hl4 with e | e | e | e <;> rw [e] <;> rfl
  rw [hn] at hcb
  have c0 := hcb 0 (by omega) (by omega)
  have c1 := hcb 1 (by omega) (by omega)
  have c2 := hcb 2 (by omega) (by omega)
  have c3 := hcb 3 (by omega) (by omega)
  have c4 := hcb 4 (by omega) (by omega)
  have c5 := hcb 5 (by omega) (by omega)
  rcases hl4 with rfl | rfl | rfl | rfl
  all_goals exact ⟨cbE c0 rfl rfl, cbE c1 rfl rfl, cbE c2 rfl rfl, (cb_3 rfl rfl (by omega)).mp c3, cbE c4 rfl rfl, cbE c5 rfl rfl⟩
theorem tlS_I (hl : 0 ≤ ln ∧ ln ≤ 9) (h : StI d) (hf : ¬ ((ln = 7 ∧ 8 ≤ d.1 0 13) ∨ ((3 ≤ ln ∧ ln ≤ 6) ∧ 9 ≤ d.1 0 3))) (hcb : ∀ i, 0 ≤ i → i < (nOf ln : Int) → cbQ ln i V = true) : StI (tlS ln V d.1, tlH ln V d.2.1, tlB ln V d.2.2) := by
  obtain ⟨h1, h2, h3, h4, h5, h6, h7⟩ := h
  by_cases c : 3 ≤ ln ∧ ln ≤ 6
  · obtain ⟨w0, w1, w2, w3, w4, w5⟩ := cb_s c hcb
    have eS : tlS ln V d.1 = u3 (u3 (u3 (u3 (u3 (u3 (u3 (u3 d.1 2 (d.1 0 3) (ln - 3)) 3 (d.1 0 3) (V 0)) 4 (d.1 0 3) (V 1)) 5 (d.1 0 3) (V 2)) 6 (d.1 0 3) (V 3)) 7 (d.1 0 3) (V 4)) 8 (d.1 0 3) (V 5)) 0 3 (d.1 0 3 + 1) := by
      unfold tlS
      rw [if_neg (by omega), if_neg (by omega), if_neg (by omega), if_neg (by omega), if_neg (by omega), if_neg (by omega)]
    have eH : tlH ln V d.2.1 = so d.2.1 (p2 (V 0)) := by unfold tlH; rw [if_neg (by omega)]; exact if_pos (by omega)
    have eB : tlB ln V d.2.2 = d.2.2 := by unfold tlB; rw [if_neg (by omega), if_neg (by omega)]
    rw [eS, eH, eB]
    have p := p2_8 w0
    refine ⟨?_, fun i a b => ?_, fun k a b => ?_, fun k a b => ?_, fun i a b => ?_, so_256 h6 (by omega), h7⟩
    · simp (disch := omega) only [u3_n, u3_s]; omega
    · simp (disch := omega) only [u3_n]; exact h2 i a b
    · dsimp only at b ⊢
      rw [u3_s] at b
      by_cases ck : k = d.1 0 3
      · rw [ck]
        simp (disch := omega) only [u3_n, u3_s]
        omega
      · simp (disch := omega) only [u3_n]; exact h3 k a (by omega)
    · simp (disch := omega) only [u3_n]; exact h4 k a b
    · dsimp only at b ⊢
      simp (disch := omega) only [u3_n] at b
      simp (disch := omega) only [u3_n]; exact h5 i a b
  · have : ln = 0 ∨ ln = 1 ∨ ln = 2 ∨ ln = 7 ∨ ln = 8 ∨ ln = 9 := by omega
    rcases this with rfl | rfl | rfl | rfl | rfl | rfl
    · have w0 : 1 ≤ V 0 ∧ V 0 ≤ 8 := cbE (hcb 0 (by omega) (by decide)) rfl rfl
      show StI (u3 d.1 0 0 (V 0), d.2.1, d.2.2)
      refine ⟨?_, fun i a b => ?_, fun k a b => ?_, fun k a b => ?_, fun i a b => ?_, h6, h7⟩
      · simp (disch := omega) only [u3_n, u3_s]; omega
      · simp (disch := omega) only [u3_n]; exact h2 i a b
      · simp (disch := omega) only [u3_n] at b ⊢; exact h3 k a b
      · simp (disch := omega) only [u3_n]; exact h4 k a b
      · simp (disch := omega) only [u3_n] at b ⊢; exact h5 i a b
    · have w0 : 0 ≤ V 0 ∧ V 0 ≤ 7 := cbE (hcb 0 (by omega) (by decide)) rfl rfl
      have w1 : 0 ≤ V 1 ∧ V 1 ≤ 7 := cbE (hcb 1 (by omega) (by decide)) rfl rfl
      have w2 : 1 ≤ V 2 ∧ V 2 ≤ 9 := cbE (hcb 2 (by omega) (by decide)) rfl rfl
      have p0 := p2_8 w0
      have p1 := p2_8 w1
      show StI (u3 (u3 d.1 1 (V 0 * 8 + V 1) (V 2)) 1 (V 1 * 8 + V 0) (V 2), so d.2.1 (so (p2 (V 0)) (p2 (V 1))), d.2.2)
      refine ⟨?_, fun i a b => ?_, fun k a b => ?_, fun k a b => ?_, fun i a b => ?_, so_256 h6 (so_256 (by omega) (by omega)), h7⟩
      · simp (disch := omega) only [u3_n]; omega
      · have := h2 i a b
        unfold u3
        grind
      · simp (disch := omega) only [u3_n] at b ⊢; exact h3 k a b
      · simp (disch := omega) only [u3_n]; exact h4 k a b
      · simp (disch := omega) only [u3_n] at b ⊢; exact h5 i a b
    · have w0 : 0 ≤ V 0 ∧ V 0 ≤ 7 := cbE (hcb 0 (by omega) (by decide)) rfl rfl
      have p0 := p2_8 w0
      have so1 := so_256 (a := d.1 0 1) (b := p2 (V 0)) (by omega) (by omega)
      show StI (u3 d.1 0 1 (so (d.1 0 1) (p2 (V 0))), so d.2.1 (p2 (V 0)), d.2.2)
      refine ⟨?_, fun i a b => ?_, fun k a b => ?_, fun k a b => ?_, fun i a b => ?_, so_256 h6 (by omega), h7⟩
      · simp (disch := omega) only [u3_n, u3_s]; omega
      · simp (disch := omega) only [u3_n]; exact h2 i a b
      · simp (disch := omega) only [u3_n] at b ⊢; exact h3 k a b
      · simp (disch := omega) only [u3_n]; exact h4 k a b
      · simp (disch := omega) only [u3_n] at b ⊢; exact h5 i a b
    · have w0 : 0 ≤ V 0 ∧ V 0 ≤ 8 := cbE (hcb 0 (by omega) (by decide)) rfl rfl
      have w1 : 0 ≤ V 1 ∧ V 1 ≤ 35 := cbE (hcb 1 (by omega) (by decide)) rfl rfl
      have p0 := p2_9 w0
      have sg := so_ge (s := d.2.2) (t := p2 (V 0)) (by omega) (by omega)
      show StI (u3 (u3 (u3 d.1 11 (d.1 0 13) (V 0)) 12 (d.1 0 13) (V 1)) 0 13 (d.1 0 13 + 1), d.2.1, so d.2.2 (p2 (V 0)))
      refine ⟨?_, fun i a b => ?_, fun k a b => ?_, fun k a b => ?_, fun i a b => ?_, h6, so_512 h7 (by omega)⟩
      · simp (disch := omega) only [u3_n, u3_s]; omega
      · simp (disch := omega) only [u3_n]; exact h2 i a b
      · simp (disch := omega) only [u3_n] at b ⊢; exact h3 k a b
      · simp (disch := omega) only [u3_n]
        obtain ⟨a1, a2, a3⟩ := h4 k a b
        exact ⟨a1, a2, fun z => by have := a3 z; omega⟩
      · dsimp only at b ⊢
        rw [u3_s] at b
        by_cases ck : i = d.1 0 13
        · rw [ck]
          simp (disch := omega) only [u3_n, u3_s]
          omega
        · simp (disch := omega) only [u3_n]; exact h5 i a (by omega)
    · have w0 : 0 ≤ V 0 ∧ V 0 ≤ 8 := cbE (hcb 0 (by omega) (by decide)) rfl rfl
      have w1 : 0 ≤ V 1 ∧ V 1 ≤ 35 := cbE (hcb 1 (by omega) (by decide)) rfl rfl
      have p0 := p2_9 w0
      have sg := so_ge (s := d.2.2) (t := p2 (V 0)) (by omega) (by omega)
      show StI (u3 d.1 9 (V 0) (V 1), d.2.1, so d.2.2 (p2 (V 0)))
      refine ⟨?_, fun i a b => ?_, fun k a b => ?_, fun k a b => ?_, fun i a b => ?_, h6, so_512 h7 (by omega)⟩
      · simp (disch := omega) only [u3_n]; omega
      · simp (disch := omega) only [u3_n]; exact h2 i a b
      · simp (disch := omega) only [u3_n] at b ⊢; exact h3 k a b
      · obtain ⟨a1, a2, a3⟩ := h4 k a b
        dsimp only
        rw [u3_c (show ¬ (10 : Nat) = 9 by decide)]
        refine ⟨?_, a2, fun z => by have := a3 z; omega⟩
        by_cases ck : k = V 0
        · rw [ck, u3_s]; omega
        · rw [u3_n (by omega)]; exact a1
      · simp (disch := omega) only [u3_n] at b ⊢; exact h5 i a b
    · have w0 : 0 ≤ V 0 ∧ V 0 ≤ 8 := cbE (hcb 0 (by omega) (by decide)) rfl rfl
      have w1 : 0 ≤ V 1 ∧ V 1 ≤ 8 := cbE (hcb 1 (by omega) (by decide)) rfl rfl
      have p0 := p2_9 w0
      have p1 := p2_9 w1
      have sg1 := so_ge (s := p2 (V 0)) (t := p2 (V 1)) (by omega) (by omega)
      have sb1 := so_512 (a := p2 (V 0)) (b := p2 (V 1)) (by omega) (by omega)
      have sg := so_ge (s := d.2.2) (t := so (p2 (V 0)) (p2 (V 1))) (by omega) (by omega)
      show StI (u3 d.1 10 (V 0) (V 1), d.2.1, so d.2.2 (so (p2 (V 0)) (p2 (V 1))))
      refine ⟨?_, fun i a b => ?_, fun k a b => ?_, fun k a b => ?_, fun i a b => ?_, h6, so_512 h7 (by omega)⟩
      · simp (disch := omega) only [u3_n]; omega
      · simp (disch := omega) only [u3_n]; exact h2 i a b
      · simp (disch := omega) only [u3_n] at b ⊢; exact h3 k a b
      · obtain ⟨a1, a2, a3⟩ := h4 k a b
        dsimp only
        rw [u3_c (show ¬ (9 : Nat) = 10 by decide)]
        refine ⟨a1, ?_⟩
        by_cases ck : k = V 0
        · rw [ck, u3_s]; exact ⟨by omega, fun z => by omega⟩
        · rw [u3_n (by omega)]; exact ⟨a2, fun z => by have := a3 z; omega⟩
      · simp (disch := omega) only [u3_n] at b ⊢; exact h5 i a b
theorem tlD_I (hs : 0 ≤ s ∧ s < 4) (hl : fiL s ≤ ln ∧ ln ≤ laL s) (h : DI s d) (hf : fuD s ln d = false) (hcb : ∀ i, 0 ≤ i → i < (nOf ln : Int) → cbQ ln i V = true) : DI s (tlD s ln V d) := by
  have hs' : s = 0 ∨ s = 1 ∨ s = 2 ∨ s = 3 := by omega
  rcases hs' with rfl | rfl | rfl | rfl
  · have e1 : fiL 0 = 0 := rfl
    have e2 : laL 0 = 9 := rfl
    exact ⟨fun _ => tlS_I (by omega) (h.1 rfl) (of_decide_eq_false hf) hcb, fun z => absurd z (by decide), fun z => absurd z (by decide), fun z => absurd z (by decide)⟩
  · have e1 : fiL 1 = 10 := rfl
    have e2 : laL 1 = 15 := rfl
    refine ⟨fun z => absurd z (by decide), fun _ => ?_, fun z => absurd z (by decide), fun z => absurd z (by decide)⟩
    obtain ⟨h1, h2⟩ := h.2.1 rfl
    show LV (tlL ln V d.1)
    have : ln = 10 ∨ ln = 11 ∨ ln = 12 ∨ ln = 13 ∨ ln = 14 ∨ ln = 15 := by omega
    rcases this with rfl | rfl | rfl | rfl | rfl | rfl
    · have w0 : 0 ≤ V 0 ∧ V 0 ≤ 60 := cbE (hcb 0 (by omega) (by decide)) rfl rfl
      show LV (u3 d.1 0 0 (V 0))
      exact ⟨by simp (disch := omega) only [u3_n, u3_s]; omega, fun w a b => by rw [u3_c (by decide)]; exact h2 w a b⟩
    · have w0 : 1 ≤ V 0 ∧ V 0 ≤ 999 := cbE (hcb 0 (by omega) (by decide)) rfl rfl
      show LV (u3 d.1 0 1 (V 0))
      exact ⟨by simp (disch := omega) only [u3_n, u3_s]; omega, fun w a b => by rw [u3_c (by decide)]; exact h2 w a b⟩
    · have w0 : 0 ≤ V 0 ∧ V 0 ≤ 99 := cbE (hcb 0 (by omega) (by decide)) rfl rfl
      show LV (u3 d.1 0 2 (V 0))
      exact ⟨by simp (disch := omega) only [u3_n, u3_s]; omega, fun w a b => by rw [u3_c (by decide)]; exact h2 w a b⟩
    · have w0 : 0 ≤ V 0 ∧ V 0 ≤ 7 := cbE (hcb 0 (by omega) (by decide)) rfl rfl
      have p0 := p2_8 w0
      have so1 := so_256 (a := d.1 0 3) (b := p2 (V 0)) (by omega) (by omega)
      show LV (u3 d.1 0 3 (so (d.1 0 3) (p2 (V 0))))
      exact ⟨by simp (disch := omega) only [u3_n, u3_s]; omega, fun w a b => by rw [u3_c (by decide)]; exact h2 w a b⟩
    · have w0 : 0 ≤ V 0 ∧ V 0 ≤ 8 := cbE (hcb 0 (by omega) (by decide)) rfl rfl
      have w1 : 0 ≤ V 1 ∧ V 1 ≤ 9 := cbE (hcb 1 (by omega) (by decide)) rfl rfl
      show LV (u3 d.1 1 (V 0) (V 1))
      refine ⟨by simp (disch := omega) only [u3_n]; omega, fun w a b => ?_⟩
      by_cases ck : w = V 0
      · rw [ck, u3_s]; exact w1
      · rw [u3_n (by omega)]; exact h2 w a b
    · show LV (u3 d.1 0 4 1)
      exact ⟨by simp (disch := omega) only [u3_n, u3_s]; omega, fun w a b => by rw [u3_c (by decide)]; exact h2 w a b⟩
  · have e1 : fiL 2 = 16 := rfl
    have e2 : laL 2 = 19 := rfl
    refine ⟨fun z => absurd z (by decide), fun z => absurd z (by decide), fun _ => ?_, fun z => absurd z (by decide)⟩
    obtain ⟨h1, h2⟩ := h.2.2.1 rfl
    have hf' : ¬ ((17 ≤ ln ∧ ln ≤ 19) ∧ 40 ≤ d.1 0 2) := of_decide_eq_false hf
    show RV (tlR ln V d.1)
    have : ln = 16 ∨ ln = 17 ∨ ln = 18 ∨ ln = 19 := by omega
    have ad : ∀ k v : Int, ¬ 40 ≤ d.1 0 2 → (0 ≤ k ∧ k ≤ 2) → (k = 0 → 0 ≤ v ∧ v ≤ 7) → (-1 ≤ v ∧ v ≤ 35) → (k = 2 → 1 ≤ v) → RV (adR d.1 k v) := by
      intro k v f a1 a2 a3 a4
      unfold adR
      refine ⟨by simp (disch := omega) only [u3_n, u3_s]; omega, fun i a b => ?_⟩
      rw [u3_s] at b
      by_cases ck : i = d.1 0 2
      · rw [ck]
        simp (disch := omega) only [u3_n, u3_s]
        exact ⟨a1, a2, a3, a4⟩
      · simp (disch := omega) only [u3_n]; exact h2 i a (by omega)
    rcases this with rfl | rfl | rfl | rfl
    · have w0 : 0 ≤ V 0 ∧ V 0 ≤ 7 := cbE (hcb 0 (by omega) (by decide)) rfl rfl
      have w1 : 0 ≤ V 1 ∧ V 1 ≤ 35 := cbE (hcb 1 (by omega) (by decide)) rfl rfl
      show RV (u3 (u3 d.1 0 0 (V 0)) 0 1 (V 1))
      refine ⟨by simp (disch := omega) only [u3_n, u3_s]; omega, fun i a b => ?_⟩
      simp (disch := omega) only [u3_n] at b ⊢
      exact h2 i a b
    · have w0 : 0 ≤ V 0 ∧ V 0 ≤ 7 := cbE (hcb 0 (by omega) (by decide)) rfl rfl
      exact ad 0 (V 0) (by omega) (by omega) (fun _ => w0) (by omega) (fun z => absurd z (by decide))
    · exact ad 1 (-1) (by omega) (by omega) (fun z => absurd z (by decide)) (by omega) (fun z => absurd z (by decide))
    · have w0 : 1 ≤ V 0 ∧ V 0 ≤ 35 := cbE (hcb 0 (by omega) (by decide)) rfl rfl
      exact ad 2 (V 0) (by omega) (by omega) (fun z => absurd z (by decide)) (by omega) (fun _ => w0.1)
  · have e1 : fiL 3 = 20 := rfl
    have e2 : laL 3 = 21 := rfl
    refine ⟨fun z => absurd z (by decide), fun z => absurd z (by decide), fun z => absurd z (by decide), fun _ => ?_⟩
    obtain ⟨h1, h2⟩ := h.2.2.2 rfl
    have hf' : ¬ 8 ≤ d.1 0 0 := of_decide_eq_false hf
    have w0 : 0 ≤ V 0 ∧ V 0 ≤ 8 := by
      have : ln = 20 ∨ ln = 21 := by omega
      rcases this with rfl | rfl
      · exact cbE (hcb 0 (by omega) (by decide)) rfl rfl
      · exact cbE (hcb 0 (by omega) (by decide)) rfl rfl
    show CV (tlC ln V d.1)
    unfold tlC
    refine ⟨by simp (disch := omega) only [u3_n, u3_s]; omega, fun i a b => ?_⟩
    rw [u3_s] at b
    by_cases ck : i = d.1 0 0
    · rw [ck]
      simp (disch := omega) only [u3_n, u3_s]
      split <;> omega
    · simp (disch := omega) only [u3_n]; exact h2 i a (by omega)
theorem tx_DI (hs : 0 ≤ s ∧ s < 4) : ∀ (k : Nat) (w : Int) (q : Int × Int) (d : (Nat → Int → Int) × Int × Int), DI s d → DI s (txF s B n k w q d).2
  | 0, _, _, _, h => h
  | k + 1, w, q, d, h => by
    unfold txF
    split
    · exact h
    · split
      · rename_i hg
        split
        · exact h
        · refine tx_DI hs k _ _ _ ?_
          split
          · rename_i z
            obtain ⟨z1, z2, z3⟩ := lnQ_ok z
            exact tlD_I hs (by omega) h z2 z3
          · exact h
      · exact h
theorem cq_e {cb : Bool} (h : (cq cb q w).1 = 0) : cq cb q w = q := by
  obtain ⟨h1, h2⟩ := cq_0 h
  unfold cq
  rw [h2, if_neg (by simp)]
theorem fq_e (h : (fq q f w).1 = 0) : fq q f w = q := by
  obtain ⟨h1, h2⟩ := fq_0 h
  rw [h2]
  exact fq_f
theorem qF_e {cb : Int → Bool} : ∀ (k : Nat) (i w : Int) (q : Int × Int), (qF cb B n k i w q).1 = 0 → qF cb B n k i w q = q
  | 0, i, w, q, h => rfl
  | k + 1, i, w, q, h => by
    have h1 := qF_e k (i + 1) (nx B n w) (cq (cb i) q w) h
    have h2 := (qF_0 k (i + 1) (nx B n w) (cq (cb i) q w) h).1
    show qF cb B n k (i + 1) (nx B n w) (cq (cb i) q w) = q
    rw [h1]
    exact cq_e h2
theorem lnQ_e (h : (lnQ B n w ln f q).1 = 0) : lnQ B n w ln f q = q := (qF_e _ _ _ _ h).trans (fq_e (qF_0 _ _ _ _ h).1)
/-- without a fault nothing is noted -/
theorem tx_q : ∀ (k : Nat) (w : Int) (q : Int × Int) (d : (Nat → Int → Int) × Int × Int), (txF s B n k w q d).1.1 = 0 → (txF s B n k w q d).1 = q ∧ q.1 = 0
  | 0, _, _, _, h => ⟨rfl, h⟩
  | k + 1, w, q, d, h => by
    unfold txF at h ⊢
    split at h
    · rename_i c
      rw [if_pos c]
      exact ⟨rfl, h⟩
    · rename_i c
      rw [if_neg c]
      split at h
      · rename_i hg
        rw [if_pos hg]
        split at h
        · exact absurd (show (1 : Int) = 0 from h) (by decide)
        · obtain ⟨a, b⟩ := tx_q k _ _ _ h
          have e := lnQ_e b
          rw [e] at b
          exact ⟨a.trans e, b⟩
      · exact absurd (show (1 : Int) = 0 from h) (by decide)
/-- a street's end: 4, 5 or nothing -/
def okS (S : Nat → Int → Int) (k : Int) : Bool := decide (S 10 k = -1 ∨ (S 2 (S 10 k) = 3 ∧ S 3 (S 10 k) = S 3 k))
def clQ (d : (Nat → Int → Int) × Int × Int) : Int := if d.2.1 < p2 (d.1 0 0) ∧ d.2.2 < p2 (d.1 0 3) then (if al (okS d.1) (d.1 0 3) = true then 0 else 5) else 4
def txR (s : Int) (B : Int → Int) (n : Int) (d : (Nat → Int → Int) × Int × Int) : (Int × Int) × (Nat → Int → Int) × Int × Int := if s = 0 ∧ (txF s B n 601 (tW B n 0) (0, -1) d).1.1 = 0 ∧ clQ (txF s B n 601 (tW B n 0) (0, -1) d).2 ≠ 0 then ((clQ (txF s B n 601 (tW B n 0) (0, -1) d).2, n), (txF s B n 601 (tW B n 0) (0, -1) d).2) else txF s B n 601 (tW B n 0) (0, -1) d
theorem cl_SV5 (h : StI d) (hc : clQ d = 0) : SV5 d.1 := by
  obtain ⟨h1, h2, h3, h4, h5, h6, h7⟩ := h
  unfold clQ at hc
  by_cases c : d.2.1 < p2 (d.1 0 0) ∧ d.2.2 < p2 (d.1 0 3)
  · rw [if_pos c] at hc
    by_cases ca : al (okS d.1) (d.1 0 3) = true
    · have hA := (al_iff _ (by omega)).mp ca
      refine ⟨⟨by omega, h2, fun k a b => ?_, h5⟩, by omega, fun j a b z => ?_⟩
      · obtain ⟨x1, x2, x3, x4, x5, x6, x7⟩ := h3 k a b
        obtain ⟨y1, y2, y3⟩ := h4 k a (by omega)
        exact ⟨x1, x2, x3, x4, x5, x6, x7, y1, y2⟩
      · obtain ⟨y1, y2, y3⟩ := h4 j a (by omega)
        have y4 := y3 z
        have lt := (p2_lt_iff (a := d.1 10 j) (h := d.1 0 3) (by omega) (by omega)).mp (by omega)
        have := hA j a b
        unfold okS at this
        rw [decide_eq_true_eq] at this
        rcases this with e | e
        · exact absurd e z
        · exact ⟨by omega, lt, e.1⟩
    · rw [if_neg ca] at hc; omega
  · rw [if_neg c] at hc; omega
end PURE
