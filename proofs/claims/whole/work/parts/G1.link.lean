/-! CLASS AND REFERENCE: what a night is by units -/
/-- the soundings of a trail are its units, in their order -/
def TZ (T : Nat → Int → Int) : Prop := (0 ≤ T 0 7 ∧ T 0 7 ≤ 36) ∧ (∀ j, 0 ≤ j → j < T 0 7 → 0 ≤ T 4 j ∧ T 4 j < 36 ∧ 0 < T 3 (T 4 j)) ∧ (∀ j j', 0 ≤ j → j < j' → j' < T 0 7 → T 4 j < T 4 j') ∧ (∀ v, 0 ≤ v → v < 36 → 0 < T 3 v → ∃ j, 0 ≤ j ∧ j < T 0 7 ∧ T 4 j = v) ∧ (∀ v, 0 ≤ v → v < 36 → 0 ≤ T 3 v ∧ (T 3 v = 0 → T 2 v = -1))
theorem fo_TZ {α : Type} {T : Nat → Int → Int} (hT : TZ T) (g : Int → α → α) (a : α) (hg : ∀ u x, 0 ≤ u → u < 36 → T 3 u = 0 → g u x = x) : fo (fun j x => g (T 4 j) x) a (T 0 7) = fo g a 36 := by
  obtain ⟨h1, h2, h3, h4, h5⟩ := hT
  have key : ∀ n : Nat, n ≤ 36 → ∃ c, 0 ≤ c ∧ c ≤ T 0 7 ∧ (∀ j, 0 ≤ j → j < c → T 4 j < n) ∧ (∀ j, c ≤ j → j < T 0 7 → (n : Int) ≤ T 4 j) ∧ fo (fun j x => g (T 4 j) x) a c = fo g a n := by
    intro n
    induction n with
    | zero => intro _; exact ⟨0, by omega, by omega, fun j q1 q2 => by omega, fun j q1 q2 => by have := h2 j q1 q2; omega, rfl⟩
    | succ n ih =>
      intro hn
      obtain ⟨c, c1, c2, c3, c4, c5⟩ := ih (by omega)
      have e : ((n + 1 : Nat) : Int) = (n : Int) + 1 := by omega
      have h5n := h5 n (by omega) (by omega)
      by_cases hp : 0 < T 3 (n : Int)
      · obtain ⟨j, j1, j2, j3⟩ := h4 n (by omega) (by omega) hp
        have hjc : j = c := by
          by_cases q : j < c
          · have := c3 j j1 q; omega
          · by_cases q2 : c < j
            · have a := h3 c j c1 q2 j2
              have b := c4 c (Int.le_refl c) (by omega)
              omega
            · omega
        subst hjc
        refine ⟨j + 1, by omega, by omega, fun i q1 q2 => ?_, fun i q1 q2 => ?_, ?_⟩
        · by_cases q : i = j
          · subst q; omega
          · have := c3 i q1 (by omega); omega
        · have := h3 j i j1 (by omega) q2; omega
        · rw [e, fo_s _ _ j1, fo_s _ _ (by omega), c5, j3]
      · refine ⟨c, c1, c2, fun i q1 q2 => by have := c3 i q1 q2; omega, fun i q1 q2 => ?_, ?_⟩
        · have a := c4 i q1 q2
          by_cases q : T 4 i = n
          · have b := (h2 i (by omega) q2).2.2
            rw [q] at b
            omega
          · omega
        · rw [e, fo_s _ _ (by omega), hg n _ (by omega) (by omega) (by omega), c5]
  obtain ⟨c, c1, c2, c3, c4, c5⟩ := key 36 (by omega)
  have : c = T 0 7 := by
    by_cases q : c < T 0 7
    · have a := c4 c (Int.le_refl c) q
      have b := h2 c c1 q
      omega
    · omega
  subst this
  exact c5
theorem TW_TZ {S T : Nat → Int → Int} {i : Int} (h : TW S i T) : TZ T := by
  obtain ⟨h1, h2, h3, h4, h5, h6⟩ := h
  refine ⟨by omega, fun j q1 q2 => ?_, h4, h5, fun v q1 q2 => ?_⟩
  · have := h3 j q1 q2; omega
  · have := h2 v q1 q2
    exact ⟨by omega, this.2.2.2.2⟩
/-- a walk: stop is between, the rows are in order -/
theorem wl_ok {S R T : Nat → Int → Int} {x : Int} (hV : SV S) (hR : RV R) (hx : 0 ≤ x) : TZ (wlS S R T x) ∧ TV (wlS S R T x) ∧ (0 ≤ wlS S R T x 0 2 ∧ wlS S R T x 0 2 ≤ x ∧ wlS S R T x 0 2 ≤ R 0 2) ∧ (0 ≤ wlS S R T x 0 0 ∧ wlS S R T x 0 0 ≤ 7) ∧ (0 ≤ wlS S R T x 0 1 ∧ wlS S R T x 0 1 ≤ 35) := by
  have v := hV.1
  have vr := hR.1
  have t02 : t0S R T 0 2 = 0 := by unfold t0S clT; simp [u3, sA]
  unfold wlS
  by_cases hh : 0 ≤ R 0 0 ∧ R 0 0 < S 0 0
  · rw [if_pos hh]
    have hn : 0 ≤ mnS R x ∧ mnS R x ≤ R 0 2 ∧ mnS R x ≤ x := by
      unfold mnS
      split <;> omega
    obtain ⟨s1, s2, s3, s4⟩ := spS_sp (S := S) (R := R) (T := t0S R T) hn.1
    have hW := TW_all (T := t0S R T) (m := mnS R x) (i := spS S R (t0S R T) (mnS R x)) hV hR ⟨hn.1, hn.2.1⟩ (TW_0 hR hh.2) ⟨s1, Int.le_refl _⟩
    have e2 : twS S R (t0S R T) (spS S R (t0S R T) (mnS R x)) 0 2 = spS S R (t0S R T) (mnS R x) := by
      by_cases c : spS S R (t0S R T) (mnS R x) = 0
      · rw [c]; exact t02
      · have es : twS S R (t0S R T) (spS S R (t0S R T) (mnS R x)) = u3 (stepT S (R 1 (spS S R (t0S R T) (mnS R x) - 1)) (R 2 (spS S R (t0S R T) (mnS R x) - 1)) (twS S R (t0S R T) (spS S R (t0S R T) (mnS R x) - 1))) 0 2 (spS S R (t0S R T) (mnS R x) - 1 + 1) := by
          conv => lhs; rw [show spS S R (t0S R T) (mnS R x) = spS S R (t0S R T) (mnS R x) - 1 + 1 by omega]
          exact fo_s _ _ (by omega)
        rw [es, u3_s]
        omega
    rw [e2]
    have w := hW.1
    exact ⟨TW_TZ hW, TW_TV (by omega) hW, by omega, by omega, by omega⟩
  · rw [if_neg hh]
    have r0 : t0S R T 0 0 = R 0 0 ∧ t0S R T 0 1 = R 0 1 ∧ t0S R T 0 7 = 0 := by unfold t0S clT; simp [u3, sA]
    have r1 : ∀ x, 0 ≤ x → x < 36 → t0S R T 1 x = -1 := by
      intro x g1 g2; unfold t0S clT u3 sA flr; simp; omega
    have r2 : ∀ x, 0 ≤ x → x < 36 → t0S R T 2 x = -1 := by
      intro x g1 g2; unfold t0S clT u3 sA flr; simp; omega
    have r3 : ∀ x, 0 ≤ x → x < 36 → t0S R T 3 x = 0 := by
      intro x g1 g2; unfold t0S clT u3 sA flr; simp; omega
    refine ⟨⟨by omega, fun j q1 q2 => by omega, fun j j' q1 q2 q3 => by omega, fun v q1 q2 q3 => by rw [r3 v q1 q2] at q3; omega, fun v q1 q2 => ⟨by rw [r3 v q1 q2]; omega, fun _ => r2 v q1 q2⟩⟩, ⟨by omega, fun u q1 q2 => by rw [r1 u q1 q2, r2 u q1 q2, r3 u q1 q2]; omega, fun j q1 q2 => by omega⟩, by omega, by omega, by omega⟩
/-- stand-ins are in order -/
def SIo (S : Nat → Int → Int) (si : Int → Int) : Prop := ∀ k, 0 ≤ k → k < S 0 3 → -1 ≤ si k ∧ si k < S 0 3 ∧ (si k ≠ -1 → S 2 k = 3)
/-- a table of depths -/
def DT (S T : Nat → Int → Int) (D : Int → Int) : Prop := ∀ k u, 0 ≤ k → k < S 0 3 → 0 ≤ u → u < 36 → D (k * 36 + u) = dpS S T k u
/-- since when, by wakings and two alarms -/
def sgS (p : Int → Bool) (l m : Int) : Int := fo (fun j x => if p (l + j) = true then l + j else x) l (m - l)
theorem sgS_s {p : Int → Bool} {l u : Int} (h : l ≤ u) : sgS p l (u + 1) = if p u = true then u else sgS p l u := by
  unfold sgS
  rw [show u + 1 - l = (u - l) + 1 by omega, fo_s _ _ (by omega), show l + (u - l) = u by omega]
theorem sgS_0 {p : Int → Bool} {l : Int} : sgS p l l = l := by
  unfold sgS
  rw [show l - l = 0 by omega]
  rfl
theorem snS_sg {S T : Nat → Int → Int} {k m : Int} : snS S T k m = sgS (wkS S T k) (S 5 k) m := rfl
/-- the least number at or ahead of u, as folds have it -/
theorem sg_se {S T : Nat → Int → Int} {al a b k u : Int} (hS : 0 ≤ S 5 k) (hu : asS S k u = true) : sgS (fun v => decide (al = k ∧ v = a) || decide (al = k ∧ v = b) || wkS S T k v) (S 5 k) (u + 1) = seR S al a b (lwS S T k u) k u := by
  have hl := asS_l hu
  have key : ∀ n : Nat, S 5 k + n ≤ upS S k → sgS (fun v => decide (al = k ∧ v = a) || decide (al = k ∧ v = b) || wkS S T k v) (S 5 k) (S 5 k + n) = seR S al a b (lwS S T k (S 5 k + n - 1)) k (S 5 k + n - 1) ∧ (lwS S T k (S 5 k + n - 1) = -1 ∨ S 5 k ≤ lwS S T k (S 5 k + n - 1) ∧ lwS S T k (S 5 k + n - 1) ≤ S 5 k + n - 1) := by
    intro n
    induction n with
    | zero =>
      intro _
      have e : lwS S T k (S 5 k + ((0 : Nat) : Int) - 1) = -1 := by
        unfold lwS
        rw [fo_tail _ _ (u := 0) (by omega) (fun i x q1 q2 => by
          have : asS S k i = false := by unfold asS; rw [decide_eq_false]; omega
          rw [this]; simp)]
        rfl
      rw [e, show S 5 k + ((0 : Nat) : Int) = S 5 k by omega, sgS_0]
      refine ⟨?_, Or.inl rfl⟩
      unfold seR
      have h1 : ¬ (S 5 k < -1) := by omega
      simp only [h1, if_false]
      rw [if_neg (by omega), if_neg (by omega)]
    | succ n ih =>
      intro hn
      obtain ⟨i1, i2⟩ := ih (by omega)
      have has : asS S k (S 5 k + n) = true := by unfold asS; rw [decide_eq_true_eq]; omega
      have e1 : S 5 k + ((n + 1 : Nat) : Int) = S 5 k + n + 1 := by omega
      have e2 : S 5 k + ((n + 1 : Nat) : Int) - 1 = S 5 k + n := by omega
      have el : lwS S T k (S 5 k + n) = if wkS S T k (S 5 k + n) = true then S 5 k + n else lwS S T k (S 5 k + n - 1) := by
        unfold lwS
        rw [fo_s _ _ (by omega), show S 5 k + (n : Int) - 1 + 1 = S 5 k + n by omega, has, Bool.and_true]
      rw [e2, e1, sgS_s (by omega), i1, el]
      generalize lwS S T k (S 5 k + n - 1) = lw at *
      unfold seR
      have ha : ∀ z, asS S k z = true ↔ (S 5 k ≤ z ∧ z < upS S k) := fun z => by unfold asS; rw [decide_eq_true_eq]
      simp only [ha]
      cases wkS S T k (S 5 k + n) <;> simp only [Bool.or_false, Bool.or_true, Bool.or_eq_true, decide_eq_true_eq, if_true, if_false, Bool.false_eq_true] <;> grind
  have := (key (u + 1 - S 5 k).toNat (by omega)).1
  rw [show S 5 k + (((u + 1 - S 5 k).toNat : Nat) : Int) = u + 1 by omega, show u + 1 - 1 = u by omega] at this
  exact this
theorem sn_se {S T : Nat → Int → Int} {a b k u : Int} (hk : 0 ≤ k) (hS : 0 ≤ S 5 k) (hu : asS S k u = true) : snS S T k (u + 1) = seR S (-1) a b (lwS S T k u) k u := by
  rw [← sg_se hS hu, snS_sg]
  congr 1
  funext v
  have h1 : ¬ (-1 = k ∧ v = a) := by omega
  have h2 : ¬ (-1 = k ∧ v = b) := by omega
  simp [h1, h2]
theorem dp_link {S T : Nat → Int → Int} (hV : SV S) {a b k u : Int} (hk : 0 ≤ k ∧ k < S 0 3) : dpR S (-1) a b (fun j => lwS S T j u) k u = if dpS S T k u = -1 then 0 else dpS S T k u := by
  have v := hV.2.2.1 k hk.1 hk.2
  unfold dpR dpS
  cases has : asS S k u
  · simp
  · have e := sn_se (S := S) (T := T) (a := a) (b := b) hk.1 (by omega) has
    have hl := asS_l has
    have hs := snS_b (S := S) (T := T) (k := k) (u := u + 1) (by omega)
    have hu := upS_b hV hk
    have hd := dsS_b hV hk (u := u) (w := snS S T k (u + 1)) (by omega) (by omega)
    simp only [if_true]
    rw [← e, if_neg (by omega)]
theorem dp_as {S T : Nat → Int → Int} (hV : SV S) {k u : Int} (hk : 0 ≤ k ∧ k < S 0 3) : (dpS S T k u = -1) = (asS S k u = false) := by
  have v := hV.2.2.1 k hk.1 hk.2
  unfold dpS
  cases has : asS S k u
  · simp
  · have hl := asS_l has
    have hs := snS_b (S := S) (T := T) (k := k) (u := u + 1) (by omega)
    have hu := upS_b hV hk
    have hd := dsS_b hV hk (u := u) (w := snS S T k (u + 1)) (by omega) (by omega)
    apply propext
    simp only [if_true]
    constructor
    · intro q; omega
    · intro q; cases q
/-- readings of the class are the reference's -/
theorem rd_link {S T : Nat → Int → Int} (hV : SV S) {D si : Int → Int} (hD : DT S T D) (hI : SIo S si) {a b k u : Int} (hk : 0 ≤ k ∧ k < S 0 3) (hu : 0 ≤ u ∧ u < 36) : rdS S D si k u = rdT S (-1) a b si T k u := by
  have hi := hI k hk.1 hk.2
  unfold rdS rdT rqR
  rw [hD k u hk.1 hk.2 hu.1 hu.2, dp_link hV hk]
  simp only [dp_as (T := T) (u := u) hV hk]
  by_cases c : asS S k u = false ∨ S 2 k = 2
  · rw [if_pos c, if_pos c]
  · rw [if_neg c, if_neg c]
    have c1 : ¬ asS S k u = false := fun q => c (Or.inl q)
    by_cases c3 : si k = -1
    · rw [if_pos c3, if_pos (Or.inr c3), if_neg c1]
    · have c4 : ¬ (S 2 k ≠ 3 ∨ si k = -1) := by
        intro q
        rcases q with q | q
        · exact q (hi.2.2 c3)
        · exact c3 q
      rw [if_neg c3, if_neg c4, hD (si k) u (by omega) (by omega) hu.1 hu.2, dp_link hV (by omega)]
