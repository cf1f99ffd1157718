/-! TRAILS of the class: a walk -/
/-- rows of a trail behind i acts -/
def TW (S : Nat → Int → Int) (i : Int) (T : Nat → Int → Int) : Prop :=
  (0 ≤ T 0 0 ∧ T 0 0 < S 0 0 ∧ 0 ≤ T 0 1 ∧ T 0 1 ≤ 35 ∧ 0 ≤ T 0 7 ∧ T 0 7 ≤ 36)
  ∧ (∀ v, 0 ≤ v → v < 36 → (-1 ≤ T 1 v ∧ T 1 v ≤ 7 ∧ (T 1 v ≠ -1 → v ≤ T 0 1)) ∧ (-1 ≤ T 2 v ∧ T 2 v ≤ 7) ∧ (0 ≤ T 3 v ∧ T 3 v ≤ i) ∧ (0 < T 3 v → v ≤ T 0 1 ∧ 0 ≤ T 2 v) ∧ (T 3 v = 0 → T 2 v = -1))
  ∧ (∀ j, 0 ≤ j → j < T 0 7 → j ≤ T 4 j ∧ T 4 j ≤ T 0 1 ∧ 0 < T 3 (T 4 j))
  ∧ (∀ j j', 0 ≤ j → j < j' → j' < T 0 7 → T 4 j < T 4 j')
  ∧ (∀ v, 0 ≤ v → v < 36 → 0 < T 3 v → ∃ j, 0 ≤ j ∧ j < T 0 7 ∧ T 4 j = v)
  ∧ (0 < T 3 (T 0 1) → T 2 (T 0 1) = T 0 0)
theorem TW_TI {S T : Nat → Int → Int} {i : Int} (hV : SV S) (hi : i ≤ 40) (h : TW S i T) : TI T := by
  have v := hV.1
  obtain ⟨h1, h2, h3, h4, h5, h6⟩ := h
  refine ⟨by omega, fun u q1 q2 => ?_⟩
  have := h2 u q1 q2
  omega
theorem TW_TV {S T : Nat → Int → Int} {i : Int} (hi : i ≤ 40) (h : TW S i T) : TV T := by
  obtain ⟨h1, h2, h3, h4, h5, h6⟩ := h
  refine ⟨by omega, fun u q1 q2 => ?_, fun j q1 q2 => ?_⟩
  · have := h2 u q1 q2
    omega
  · have a := h3 j q1 q2
    have b := h2 (T 4 j) (by omega) (by omega)
    omega
theorem TW_go {S T : Nat → Int → Int} {i nb un : Int} (hV : SV S) (hi : 0 ≤ i) (h : TW S i T) (hn : 0 ≤ nb ∧ nb < S 0 0) (hu : 0 < un ∧ T 0 1 + un ≤ 35) : TW S (i + 1) (u3 (goT nb un T) 0 2 (i + 1)) := by
  have v := hV.1
  obtain ⟨h1, h2, h3, h4, h5, h6⟩ := h
  have r0 : ∀ x, u3 (goT nb un T) 0 2 (i + 1) 0 x = if x = 2 then i + 1 else if x = 0 then nb else if x = 1 then T 0 1 + un else T 0 x := by
    intro x; unfold goT u3; simp
  have r1 : ∀ x, u3 (goT nb un T) 0 2 (i + 1) 1 x = if x = T 0 1 + un then nb else T 1 x := by
    intro x; unfold goT u3; simp
  have r2 : u3 (goT nb un T) 0 2 (i + 1) 2 = T 2 := by
    funext x; unfold goT u3; simp
  have r3 : u3 (goT nb un T) 0 2 (i + 1) 3 = T 3 := by
    funext x; unfold goT u3; simp
  have r4 : u3 (goT nb un T) 0 2 (i + 1) 4 = T 4 := by
    funext x; unfold goT u3; simp
  unfold TW
  simp only [r0, r1, r2, r3, r4]
  refine ⟨by simp; omega, fun v q1 q2 => ?_, fun j q1 q2 => ?_, fun j j' q1 q2 q3 => ?_, fun v q1 q2 q3 => ?_, fun q => ?_⟩
  · have := h2 v q1 q2
    simp
    grind
  · simp at q2 ⊢
    have := h3 j q1 q2
    omega
  · simp at q3
    exact h4 j j' q1 q2 q3
  · simp
    exact h5 v q1 q2 q3
  · simp at q ⊢
    have := h2 (T 0 1 + un) (by omega) (by omega)
    omega
theorem TW_wa {S T : Nat → Int → Int} {i un : Int} (hV : SV S) (hi : 0 ≤ i) (h : TW S i T) (hu : 0 < un ∧ T 0 1 + un ≤ 35) : TW S (i + 1) (u3 (waT un T) 0 2 (i + 1)) := by
  have v := hV.1
  obtain ⟨h1, h2, h3, h4, h5, h6⟩ := h
  have r0 : ∀ x, u3 (waT un T) 0 2 (i + 1) 0 x = if x = 2 then i + 1 else if x = 1 then T 0 1 + un else T 0 x := by
    intro x; unfold waT u3; simp
  have r1 : u3 (waT un T) 0 2 (i + 1) 1 = T 1 := by
    funext x; unfold waT u3; simp
  have r2 : u3 (waT un T) 0 2 (i + 1) 2 = T 2 := by
    funext x; unfold waT u3; simp
  have r3 : u3 (waT un T) 0 2 (i + 1) 3 = T 3 := by
    funext x; unfold waT u3; simp
  have r4 : u3 (waT un T) 0 2 (i + 1) 4 = T 4 := by
    funext x; unfold waT u3; simp
  unfold TW
  simp only [r0, r1, r2, r3, r4]
  refine ⟨by simp; omega, fun v q1 q2 => ?_, fun j q1 q2 => ?_, fun j j' q1 q2 q3 => ?_, fun v q1 q2 q3 => ?_, fun q => ?_⟩
  · have := h2 v q1 q2
    simp
    grind
  · simp at q2 ⊢
    have := h3 j q1 q2
    omega
  · simp at q3
    exact h4 j j' q1 q2 q3
  · simp
    exact h5 v q1 q2 q3
  · simp at q ⊢
    have := h2 (T 0 1 + un) (by omega) (by omega)
    omega
theorem TW_so {S T : Nat → Int → Int} {i : Int} (hV : SV S) (hi : 0 ≤ i) (h : TW S i T) : TW S (i + 1) (u3 (soT T) 0 2 (i + 1)) ∧ (T 3 (T 0 1) = 0 → T 0 7 < 36) := by
  have v := hV.1
  obtain ⟨h1, h2, h3, h4, h5, h6⟩ := h
  have hu := h2 (T 0 1) (by omega) (by omega)
  have hlt : T 3 (T 0 1) = 0 → T 0 7 < 36 := by
    intro q
    by_cases h9 : T 0 7 = 36
    · have a := h3 35 (by omega) (by omega)
      have e : T 4 35 = T 0 1 := by omega
      rw [e] at a
      omega
    · omega
  refine ⟨?_, hlt⟩
  by_cases c : T 3 (T 0 1) = 0
  · have c7 := hlt c
    have hs : soT T = u3 (u3 (u3 (u3 T 4 (T 0 7) (T 0 1)) 0 7 (T 0 7 + 1)) 2 (T 0 1) (T 0 0)) 3 (T 0 1) (T 3 (T 0 1) + 1) := by
      unfold soT
      rw [if_pos ⟨c, c7⟩]
    rw [hs]
    have r0 : ∀ x, u3 (u3 (u3 (u3 (u3 T 4 (T 0 7) (T 0 1)) 0 7 (T 0 7 + 1)) 2 (T 0 1) (T 0 0)) 3 (T 0 1) (T 3 (T 0 1) + 1)) 0 2 (i + 1) 0 x = if x = 2 then i + 1 else if x = 7 then T 0 7 + 1 else T 0 x := by
      intro x; unfold u3; simp
    have r1 : u3 (u3 (u3 (u3 (u3 T 4 (T 0 7) (T 0 1)) 0 7 (T 0 7 + 1)) 2 (T 0 1) (T 0 0)) 3 (T 0 1) (T 3 (T 0 1) + 1)) 0 2 (i + 1) 1 = T 1 := by
      funext x; unfold u3; simp
    have r2 : ∀ x, u3 (u3 (u3 (u3 (u3 T 4 (T 0 7) (T 0 1)) 0 7 (T 0 7 + 1)) 2 (T 0 1) (T 0 0)) 3 (T 0 1) (T 3 (T 0 1) + 1)) 0 2 (i + 1) 2 x = if x = T 0 1 then T 0 0 else T 2 x := by
      intro x; unfold u3; simp
    have r3 : ∀ x, u3 (u3 (u3 (u3 (u3 T 4 (T 0 7) (T 0 1)) 0 7 (T 0 7 + 1)) 2 (T 0 1) (T 0 0)) 3 (T 0 1) (T 3 (T 0 1) + 1)) 0 2 (i + 1) 3 x = if x = T 0 1 then T 3 (T 0 1) + 1 else T 3 x := by
      intro x; unfold u3; simp
    have r4 : ∀ x, u3 (u3 (u3 (u3 (u3 T 4 (T 0 7) (T 0 1)) 0 7 (T 0 7 + 1)) 2 (T 0 1) (T 0 0)) 3 (T 0 1) (T 3 (T 0 1) + 1)) 0 2 (i + 1) 4 x = if x = T 0 7 then T 0 1 else T 4 x := by
      intro x; unfold u3; simp
    have hall : ∀ j, 0 ≤ j → j < T 0 7 → T 4 j < T 0 1 := by
      intro j q1 q2
      have a := h3 j q1 q2
      by_cases e : T 4 j = T 0 1
      · rw [e] at a; omega
      · omega
    have hle : T 0 7 ≤ T 0 1 := by
      by_cases e : T 0 7 = 0
      · omega
      · have a := h3 (T 0 7 - 1) (by omega) (by omega)
        have b := hall (T 0 7 - 1) (by omega) (by omega)
        omega
    unfold TW
    simp only [r0, r1, r2, r3, r4]
    refine ⟨by simp; omega, fun v q1 q2 => ?_, fun j q1 q2 => ?_, fun j j' q1 q2 q3 => ?_, fun v q1 q2 q3 => ?_, fun q => ?_⟩
    · have := h2 v q1 q2
      simp
      grind
    · simp at q2 ⊢
      by_cases e : j = T 0 7
      · rw [if_pos e]; simp; omega
      · have a := h3 j q1 (by omega)
        have b := hall j q1 (by omega)
        rw [if_neg e, if_neg (by omega)]
        omega
    · simp at q3
      by_cases e : j' = T 0 7
      · rw [if_pos e, if_neg (by omega)]
        exact hall j q1 (by omega)
      · rw [if_neg e, if_neg (by omega)]
        exact h4 j j' q1 q2 (by omega)
    · simp
      by_cases e : v = T 0 1
      · exact ⟨T 0 7, by omega, by omega, by rw [if_pos rfl, e]⟩
      · rw [if_neg e] at q3
        obtain ⟨j, a1, a2, a3⟩ := h5 v q1 q2 q3
        exact ⟨j, a1, by omega, by rw [if_neg (by omega)]; exact a3⟩
    · simp
  · have hs : soT T = u3 (u3 T 2 (T 0 1) (T 0 0)) 3 (T 0 1) (T 3 (T 0 1) + 1) := by
      unfold soT
      rw [if_neg (fun q => c q.1)]
    rw [hs]
    have r0 : ∀ x, u3 (u3 (u3 T 2 (T 0 1) (T 0 0)) 3 (T 0 1) (T 3 (T 0 1) + 1)) 0 2 (i + 1) 0 x = if x = 2 then i + 1 else T 0 x := by
      intro x; unfold u3; simp
    have r1 : u3 (u3 (u3 T 2 (T 0 1) (T 0 0)) 3 (T 0 1) (T 3 (T 0 1) + 1)) 0 2 (i + 1) 1 = T 1 := by
      funext x; unfold u3; simp
    have r2 : ∀ x, u3 (u3 (u3 T 2 (T 0 1) (T 0 0)) 3 (T 0 1) (T 3 (T 0 1) + 1)) 0 2 (i + 1) 2 x = if x = T 0 1 then T 0 0 else T 2 x := by
      intro x; unfold u3; simp
    have r3 : ∀ x, u3 (u3 (u3 T 2 (T 0 1) (T 0 0)) 3 (T 0 1) (T 3 (T 0 1) + 1)) 0 2 (i + 1) 3 x = if x = T 0 1 then T 3 (T 0 1) + 1 else T 3 x := by
      intro x; unfold u3; simp
    have r4 : u3 (u3 (u3 T 2 (T 0 1) (T 0 0)) 3 (T 0 1) (T 3 (T 0 1) + 1)) 0 2 (i + 1) 4 = T 4 := by
      funext x; unfold u3; simp
    unfold TW
    simp only [r0, r1, r2, r3, r4]
    refine ⟨by simp; omega, fun v q1 q2 => ?_, fun j q1 q2 => ?_, fun j j' q1 q2 q3 => ?_, fun v q1 q2 q3 => ?_, fun q => ?_⟩
    · have := h2 v q1 q2
      simp
      grind
    · simp at q2 ⊢
      have a := h3 j q1 q2
      refine ⟨by omega, by omega, ?_⟩
      split <;> omega
    · simp at q3
      exact h4 j j' q1 q2 q3
    · simp
      by_cases e : v = T 0 1
      · exact h5 v q1 q2 (by rw [e]; omega)
      · rw [if_neg e] at q3
        exact h5 v q1 q2 q3
    · simp
/-- the rows behind i acts -/
def twS (S R : Nat → Int → Int) (T : Nat → Int → Int) (i : Int) : Nat → Int → Int := fo (fun i T => u3 (stepT S (R 1 i) (R 2 i) T) 0 2 (i + 1)) T i
def cnS (S R : Nat → Int → Int) (T : Nat → Int → Int) (i : Int) : Bool := canT S (R 1 i) (R 2 i) (twS S R T i 0 0) (twS S R T i 0 1)
/-- how many acts can be, of m -/
def spS (S R : Nat → Int → Int) (T : Nat → Int → Int) (m : Int) : Int := if fi (fun i => !cnS S R T i) m = -1 then m else fi (fun i => !cnS S R T i) m
theorem spS_sp {S R T : Nat → Int → Int} {m : Int} (hm : 0 ≤ m) : 0 ≤ spS S R T m ∧ spS S R T m ≤ m ∧ (∀ i, 0 ≤ i → i < spS S R T m → cnS S R T i = true) ∧ (spS S R T m < m → cnS S R T (spS S R T m) = false) := by
  unfold spS
  rcases fi_sp (fun i => !cnS S R T i) hm with ⟨h1, h2⟩ | ⟨h1, h2, h3, h4⟩
  · rw [if_pos h1]
    refine ⟨hm, Int.le_refl _, fun i q1 q2 => ?_, fun q => by omega⟩
    have := h2 i q1 q2
    simpa using this
  · rw [if_neg (by omega)]
    refine ⟨h1, by omega, fun i q1 q2 => ?_, fun _ => ?_⟩
    · have := h4 i q1 q2
      simpa using this
    · simpa using h3
theorem TW_step {S R T : Nat → Int → Int} {i : Int} (hV : SV S) (hR : RV R) (hi : 0 ≤ i ∧ i < R 0 2) (h : TW S i T) (hc : canT S (R 1 i) (R 2 i) (T 0 0) (T 0 1) = true) : TW S (i + 1) (u3 (stepT S (R 1 i) (R 2 i) T) 0 2 (i + 1)) := by
  have r := hR.2 i hi.1 hi.2
  unfold canT at hc
  unfold stepT
  by_cases c1 : R 1 i = 1
  · rw [if_pos c1]
    exact (TW_so hV hi.1 h).1
  · rw [if_neg c1] at hc ⊢
    by_cases c0 : R 1 i = 0
    · rw [if_pos c0] at hc ⊢
      rw [decide_eq_true_eq] at hc
      exact TW_go hV hi.1 h (by omega) (by omega)
    · rw [if_neg c0] at hc ⊢
      rw [decide_eq_true_eq] at hc
      exact TW_wa hV hi.1 h hc
theorem TW_all {S R T : Nat → Int → Int} {m i : Int} (hV : SV S) (hR : RV R) (hm : 0 ≤ m ∧ m ≤ R 0 2) (h0 : TW S 0 T) (hi : 0 ≤ i ∧ i ≤ spS S R T m) : TW S i (twS S R T i) := by
  obtain ⟨s1, s2, s3, s4⟩ := spS_sp (S := S) (R := R) (T := T) hm.1
  have : ∀ j : Nat, (j : Int) ≤ spS S R T m → TW S j (twS S R T j) := by
    intro j
    induction j with
    | zero => intro _; exact h0
    | succ j ih =>
      intro hj
      have e : ((j + 1 : Nat) : Int) = (j : Int) + 1 := by omega
      rw [e] at hj ⊢
      have a := ih (by omega)
      have b := s3 j (by omega) (by omega)
      unfold cnS at b
      have c := TW_step hV hR (i := j) (by omega) a b
      have f : twS S R T ((j : Int) + 1) = u3 (stepT S (R 1 j) (R 2 j) (twS S R T j)) 0 2 ((j : Int) + 1) := fo_s _ _ (by omega)
      rw [f]
      exact c
  have := this i.toNat (by omega)
  rwa [show ((i.toNat : Nat) : Int) = i by omega] at this
/-- the rows at the beginning -/
def t0S (R T : Nat → Int → Int) : Nat → Int → Int := u3 (u3 (clT T) 0 0 (R 0 0)) 0 1 (R 0 1)
def mnS (R : Nat → Int → Int) (m : Int) : Int := if R 0 2 < m then R 0 2 else m
/-- the rows behind a walk -/
def wlS (S R T : Nat → Int → Int) (m : Int) : Nat → Int → Int := if 0 ≤ R 0 0 ∧ R 0 0 < S 0 0 then twS S R (t0S R T) (spS S R (t0S R T) (mnS R m)) else t0S R T
theorem TW_0 {S R T : Nat → Int → Int} (hR : RV R) (hh : R 0 0 < S 0 0) : TW S 0 (t0S R T) := by
  have r := hR.1
  have r0 : ∀ x, t0S R T 0 x = if x = 1 then R 0 1 else if x = 0 then R 0 0 else if x = 7 then 0 else if x = 2 then 0 else T 0 x := by
    intro x; unfold t0S clT u3 sA; simp
  have r1 : t0S R T 1 = flr (T 1) 0 36 (-1) := by
    funext x; unfold t0S clT u3 sA; simp
  have r2 : t0S R T 2 = flr (T 2) 0 36 (-1) := by
    funext x; unfold t0S clT u3 sA; simp
  have r3 : t0S R T 3 = flr (T 3) 0 36 0 := by
    funext x; unfold t0S clT u3 sA; simp
  unfold TW
  simp only [r0, r1, r2, r3]
  refine ⟨by simp; omega, fun v q1 q2 => ?_, fun j q1 q2 => ?_, fun j j' q1 q2 q3 => ?_, fun v q1 q2 q3 => ?_, fun q => ?_⟩
  · unfold flr
    simp [if_pos (show 0 ≤ v ∧ v < 36 from ⟨q1, q2⟩)]
  · simp at q2; omega
  · simp at q3; omega
  · unfold flr at q3
    rw [if_pos ⟨q1, q2⟩] at q3
    omega
  · unfold flr at q
    simp at q
    rw [if_pos (by omega)] at q
    omega
section TRAIL
variable {E : (Nat → Value) × (Nat → Nat)} {lo d s t r : Nat} {μ : rM} {I S R T : Nat → Int → Int} {k u x y h w kd nb m : Int}
theorem walk_sp (hd : 3 ≤ d) (hT : ShT μ t) (hl : lo ≤ t) (hS : AtS μ I s S) (hV : SV S) (hR : AtR μ I r R) (hRV : RV R) (ha : s + 13 ≤ t ∨ t + 5 ≤ s) (hb : r + 3 ≤ t ∨ t + 5 ≤ r) (hm : 0 ≤ m ∧ m ≤ 1000) : cl E lo d 101 [.ref t, .ref s, .ref r, .int (J (m))] (mj μ (sB I t 5 T)) = some (none, mj μ (sB I t 5 (wlS S R T m))) := by
  obtain ⟨d, rfl⟩ : ∃ e, d = e + 1 := ⟨d - 1, by omega⟩
  have hS' : ∀ T, AtS μ (sB I t 5 T) s S := fun T => hS.fr (fun a q1 q2 => sB_n (by omega))
  have hR' : ∀ T, AtR μ (sB I t 5 T) r R := fun T => hR.fr (fun a q1 q2 => sB_n (by omega))
  have w := hRV.1
  have v := hV.1
  have e1 : cl E lo (d + 1) 101 [.ref t, .ref s, .ref r, .int (J m)] (mj μ (sB I t 5 T)) = ex PG E lo d 101 33 [some (.ref t), some (.ref s), some (.ref r), some (.int (J (m))), some (.int (J (b2i (decide (0 ≤ R 0 0 ∧ R 0 0 < S 0 0))))), some (.int (J (0)))] [] (mj μ (sB I t 5 (t0S R T))) := by
    have h1 := hR' (clT T)
    have h2 := hR' (u3 (clT T) 0 0 (R 0 0))
    have h3 := hS' (u3 (u3 (clT T) 0 0 (R 0 0)) 0 1 (R 0 1))
    unfold t0S
    simp (disch := omega) only [b101_0, b101_4, b101_12, b101_20, b101_28, e101, gO_T hT, gR_T3 hT, gR_T4 hT, gR_T5 hT, gR_T6 hT, al_T1 hT, al_T2 hT, al_T3 hT, al_T4 hT, rd_T1 hT, rd_T2 hT, rd_T3 hT, rd_T4 hT, gP_T hT hl, wr_T1 hT hl, wr_T2 hT hl, wr_T3 hT hl, wr_T4 hT hl, sB_0, sB_c, u3_sB0, u3_sB, u3_s, u3_n, Nat.reduceLT, clr_sp, gO_R h1.1, gR_R3 h1.1, gR_R4 h1.1, al_R1 h1.1, al_R2 h1.1, rd_R1 h1.1, rd_R2 h1.1, vR_0 h1, vR_1 h1, vR_2 h1, gO_R h2.1, gR_R3 h2.1, gR_R4 h2.1, al_R1 h2.1, al_R2 h2.1, rd_R1 h2.1, rd_R2 h2.1, vR_0 h2, vR_1 h2, vR_2 h2, gO_S h3.1, gR_S2 h3.1, gR_S4 h3.1, gR_S5 h3.1, gR_S6 h3.1, gR_S7 h3.1, gR_S8 h3.1, gR_S9 h3.1, gR_S10 h3.1, gR_S11 h3.1, gR_S12 h3.1, gR_S14 h3.1, gR_S15 h3.1, al_S1 h3.1, al_S2 h3.1, al_S3 h3.1, al_S4 h3.1, al_S5 h3.1, al_S6 h3.1, al_S7 h3.1, al_S8 h3.1, al_S9 h3.1, al_S10 h3.1, al_S11 h3.1, al_S12 h3.1, rd_S1 h3.1, rd_S2 h3.1, rd_S3 h3.1, rd_S4 h3.1, rd_S5 h3.1, rd_S6 h3.1, rd_S7 h3.1, rd_S8 h3.1, rd_S9 h3.1, rd_S10 h3.1, rd_S11 h3.1, rd_S12 h3.1, vS_0 h3, vS_1 h3, vS_2 h3, vS_3 h3, vS_4 h3, vS_5 h3, vS_6 h3, vS_7 h3, vS_8 h3, vS_9 h3, vS_10 h3, vS_11 h3, vS_12 h3, hh_sp, Jl0, Jl1, Jl2, Jl3, Jl4, Jl5, Jl6, Jl7, Jl8, Jl9, Jl10, Jl11, Jl12, Jl13, Jl14, Jl15, Jl16, Jl17, Jl18, Jl19, Jl20, Jl22, Jl24, Jl28, Jl30, Jl31, Jl32, Jl35, Jl36, Jl37, Jl38, Jl39, Jl40, Jl48, Jl57, Jl59, Jl60, Jl61, Jl63, Jl64, Jl68, Jl69, Jl96, Jl97, Jl98, Jl99, Jl100, Jl122, Jl149, Jl150, Jl165, Jl255, Jl511, Jl512, Jl600, Jl610, Jl940, Jl968, Jl999, Jl1134, Jl1152, Jl2048, Jl4608, Jl9999, Jl99999, Jl100000, Jl147456, Jl12345, Jl1103515245, Jl100000000, Jlm1, Jlm2, J_add, J_sub, J_mul, J_lt, J_le, J_eq, J_ite, J_cl, ri_j, wi_j, b2i_z, b2i_o, b2i_zo, Int.cast_ofNat_Int, Int.natCast_zero, Int.natCast_one, if_true, if_false, ite_self, Int.le_refl, J_bit, J_or, J_neg, J_oN, Int.reduceEq, Int.reduceLT, Int.reduceLE, Int.reduceNeg, Int.reduceAdd, Int.reduceSub, Int.reduceMul, Int.reduceToNat, J_shl, J_shr, V_ite, true_or, or_true, nz_j, J_div, J_rem, Option.bind_some, Option.toList_some, Option.toList_none, List.cons_append, List.nil_append]
  rw [e1]
  unfold wlS
  by_cases hh : 0 ≤ R 0 0 ∧ R 0 0 < S 0 0
  · rw [if_pos hh, decide_eq_true hh]
    have hn : 0 ≤ mnS R m ∧ mnS R m ≤ R 0 2 ∧ mnS R m ≤ m := by
      unfold mnS
      split <;> omega
    have hW := fun i hi => TW_all (T := t0S R T) (m := mnS R m) (i := i) hV hRV ⟨hn.1, hn.2.1⟩ (TW_0 hRV hh.2) hi
    obtain ⟨s1, s2, s3, s4⟩ := spS_sp (S := S) (R := R) (T := t0S R T) hn.1
    have LL := tele (fun i => ex PG E lo d 101 33 [some (.ref t), some (.ref s), some (.ref r), some (.int (J (m))), some (.int (J (b2i true))), some (.int (J (i)))] [] (mj μ (sB I t 5 (twS S R (t0S R T) i)))) (a := 0) (n := spS S R (t0S R T) (mnS R m)) (fun i f1 f2 => by
      have c1 := s3 i f1 f2
      unfold cnS at c1
      have w1 := hRV.2 i f1 (by omega)
      have hI := TW_TI hV (by omega) (hW i (by omega))
      have es : twS S R (t0S R T) (i + 1) = u3 (stepT S (R 1 i) (R 2 i) (twS S R (t0S R T) i)) 0 2 (i + 1) := fo_s _ _ f1
      have h1 := hS' (twS S R (t0S R T) i)
      have h2 := hR' (twS S R (t0S R T) i)
      have hst := stp_sp (E := E) (d := d) (lo := lo) (I := I) (kd := R 1 i) (nb := R 2 i) (by omega) hT hl hI hS hV ha (by omega) (by omega)
      rw [c1, if_pos rfl] at hst
      rw [b101_33, es]
      simp (disch := omega) only [b101_42, b101_48, b101_53, b101_72, b101_79, b101_87, gO_T hT, gR_T3 hT, gR_T4 hT, gR_T5 hT, gR_T6 hT, al_T1 hT, al_T2 hT, al_T3 hT, al_T4 hT, rd_T1 hT, rd_T2 hT, rd_T3 hT, rd_T4 hT, gP_T hT hl, wr_T1 hT hl, wr_T2 hT hl, wr_T3 hT hl, wr_T4 hT hl, sB_0, sB_c, u3_sB0, u3_sB, u3_s, u3_n, Nat.reduceLT, gO_R h2.1, gR_R3 h2.1, gR_R4 h2.1, al_R1 h2.1, al_R2 h2.1, rd_R1 h2.1, rd_R2 h2.1, vR_0 h2, vR_1 h2, vR_2 h2, hst, Bool.true_eq_false, Jl0, Jl1, Jl2, Jl3, Jl4, Jl5, Jl6, Jl7, Jl8, Jl9, Jl10, Jl11, Jl12, Jl13, Jl14, Jl15, Jl16, Jl17, Jl18, Jl19, Jl20, Jl22, Jl24, Jl28, Jl30, Jl31, Jl32, Jl35, Jl36, Jl37, Jl38, Jl39, Jl40, Jl48, Jl57, Jl59, Jl60, Jl61, Jl63, Jl64, Jl68, Jl69, Jl96, Jl97, Jl98, Jl99, Jl100, Jl122, Jl149, Jl150, Jl165, Jl255, Jl511, Jl512, Jl600, Jl610, Jl940, Jl968, Jl999, Jl1134, Jl1152, Jl2048, Jl4608, Jl9999, Jl99999, Jl100000, Jl147456, Jl12345, Jl1103515245, Jl100000000, Jlm1, Jlm2, J_add, J_sub, J_mul, J_lt, J_le, J_eq, J_ite, J_cl, ri_j, wi_j, b2i_z, b2i_o, b2i_zo, Int.cast_ofNat_Int, Int.natCast_zero, Int.natCast_one, if_true, if_false, ite_self, Int.le_refl, J_bit, J_or, J_neg, J_oN, Int.reduceEq, Int.reduceLT, Int.reduceLE, Int.reduceNeg, Int.reduceAdd, Int.reduceSub, Int.reduceMul, Int.reduceToNat, J_shl, J_shr, V_ite, true_or, or_true, nz_j, J_div, J_rem, Option.bind_some, Option.toList_some, Option.toList_none, List.cons_append, List.nil_append]
      rw [if_neg (by omega), if_neg (by omega)]) s1
    refine LL.trans ?_
    rw [b101_33]
    have h1 := hS' (twS S R (t0S R T) (spS S R (t0S R T) (mnS R m)))
    have h2 := hR' (twS S R (t0S R T) (spS S R (t0S R T) (mnS R m)))
    by_cases hlt : spS S R (t0S R T) (mnS R m) < mnS R m
    · have c1 := s4 hlt
      unfold cnS at c1
      have w1 := hRV.2 _ s1 (by omega)
      have hI := TW_TI hV (by omega) (hW _ ⟨s1, Int.le_refl _⟩)
      have hst := stp_sp (E := E) (d := d) (lo := lo) (I := I) (kd := R 1 (spS S R (t0S R T) (mnS R m))) (nb := R 2 (spS S R (t0S R T) (mnS R m))) (by omega) hT hl hI hS hV ha (by omega) (by omega)
      rw [c1, if_neg (by decide)] at hst
      simp (disch := omega) only [b101_42, b101_48, b101_53, b101_72, b101_87, gO_T hT, gR_T3 hT, gR_T4 hT, gR_T5 hT, gR_T6 hT, al_T1 hT, al_T2 hT, al_T3 hT, al_T4 hT, rd_T1 hT, rd_T2 hT, rd_T3 hT, rd_T4 hT, gP_T hT hl, wr_T1 hT hl, wr_T2 hT hl, wr_T3 hT hl, wr_T4 hT hl, gO_R h2.1, gR_R3 h2.1, gR_R4 h2.1, al_R1 h2.1, al_R2 h2.1, rd_R1 h2.1, rd_R2 h2.1, vR_0 h2, vR_1 h2, vR_2 h2, hst, Bool.true_eq_false, Jl0, Jl1, Jl2, Jl3, Jl4, Jl5, Jl6, Jl7, Jl8, Jl9, Jl10, Jl11, Jl12, Jl13, Jl14, Jl15, Jl16, Jl17, Jl18, Jl19, Jl20, Jl22, Jl24, Jl28, Jl30, Jl31, Jl32, Jl35, Jl36, Jl37, Jl38, Jl39, Jl40, Jl48, Jl57, Jl59, Jl60, Jl61, Jl63, Jl64, Jl68, Jl69, Jl96, Jl97, Jl98, Jl99, Jl100, Jl122, Jl149, Jl150, Jl165, Jl255, Jl511, Jl512, Jl600, Jl610, Jl940, Jl968, Jl999, Jl1134, Jl1152, Jl2048, Jl4608, Jl9999, Jl99999, Jl100000, Jl147456, Jl12345, Jl1103515245, Jl100000000, Jlm1, Jlm2, J_add, J_sub, J_mul, J_lt, J_le, J_eq, J_ite, J_cl, ri_j, wi_j, b2i_z, b2i_o, b2i_zo, Int.cast_ofNat_Int, Int.natCast_zero, Int.natCast_one, if_true, if_false, ite_self, Int.le_refl, J_bit, J_or, J_neg, J_oN, Int.reduceEq, Int.reduceLT, Int.reduceLE, Int.reduceNeg, Int.reduceAdd, Int.reduceSub, Int.reduceMul, Int.reduceToNat, J_shl, J_shr, V_ite, true_or, or_true, nz_j, J_div, J_rem, Option.bind_some, Option.toList_some, Option.toList_none, List.cons_append, List.nil_append]
      rw [if_neg (by omega), if_neg (by omega), b101_33]
      simp (disch := omega) only [b101_42, b101_48, b101_93, gO_R h2.1, gR_R3 h2.1, gR_R4 h2.1, al_R1 h2.1, al_R2 h2.1, rd_R1 h2.1, rd_R2 h2.1, vR_0 h2, vR_1 h2, vR_2 h2, Jl0, Jl1, Jl2, Jl3, Jl4, Jl5, Jl6, Jl7, Jl8, Jl9, Jl10, Jl11, Jl12, Jl13, Jl14, Jl15, Jl16, Jl17, Jl18, Jl19, Jl20, Jl22, Jl24, Jl28, Jl30, Jl31, Jl32, Jl35, Jl36, Jl37, Jl38, Jl39, Jl40, Jl48, Jl57, Jl59, Jl60, Jl61, Jl63, Jl64, Jl68, Jl69, Jl96, Jl97, Jl98, Jl99, Jl100, Jl122, Jl149, Jl150, Jl165, Jl255, Jl511, Jl512, Jl600, Jl610, Jl940, Jl968, Jl999, Jl1134, Jl1152, Jl2048, Jl4608, Jl9999, Jl99999, Jl100000, Jl147456, Jl12345, Jl1103515245, Jl100000000, Jlm1, Jlm2, J_add, J_sub, J_mul, J_lt, J_le, J_eq, J_ite, J_cl, ri_j, wi_j, b2i_z, b2i_o, b2i_zo, Int.cast_ofNat_Int, Int.natCast_zero, Int.natCast_one, if_true, if_false, ite_self, Int.le_refl, J_bit, J_or, J_neg, J_oN, Int.reduceEq, Int.reduceLT, Int.reduceLE, Int.reduceNeg, Int.reduceAdd, Int.reduceSub, Int.reduceMul, Int.reduceToNat, J_shl, J_shr, V_ite, true_or, or_true, nz_j, J_div, J_rem, Option.bind_some, Option.toList_some, Option.toList_none, List.cons_append, List.nil_append]
    · have : mnS R m = R 0 2 ∨ mnS R m = m := by
        unfold mnS
        split
        · exact Or.inl rfl
        · exact Or.inr rfl
      simp (disch := omega) only [b101_42, b101_93, gO_R h2.1, gR_R3 h2.1, gR_R4 h2.1, al_R1 h2.1, al_R2 h2.1, rd_R1 h2.1, rd_R2 h2.1, vR_0 h2, vR_1 h2, vR_2 h2, Jl0, Jl1, Jl2, Jl3, Jl4, Jl5, Jl6, Jl7, Jl8, Jl9, Jl10, Jl11, Jl12, Jl13, Jl14, Jl15, Jl16, Jl17, Jl18, Jl19, Jl20, Jl22, Jl24, Jl28, Jl30, Jl31, Jl32, Jl35, Jl36, Jl37, Jl38, Jl39, Jl40, Jl48, Jl57, Jl59, Jl60, Jl61, Jl63, Jl64, Jl68, Jl69, Jl96, Jl97, Jl98, Jl99, Jl100, Jl122, Jl149, Jl150, Jl165, Jl255, Jl511, Jl512, Jl600, Jl610, Jl940, Jl968, Jl999, Jl1134, Jl1152, Jl2048, Jl4608, Jl9999, Jl99999, Jl100000, Jl147456, Jl12345, Jl1103515245, Jl100000000, Jlm1, Jlm2, J_add, J_sub, J_mul, J_lt, J_le, J_eq, J_ite, J_cl, ri_j, wi_j, b2i_z, b2i_o, b2i_zo, Int.cast_ofNat_Int, Int.natCast_zero, Int.natCast_one, if_true, if_false, ite_self, Int.le_refl, J_bit, J_or, J_neg, J_oN, Int.reduceEq, Int.reduceLT, Int.reduceLE, Int.reduceNeg, Int.reduceAdd, Int.reduceSub, Int.reduceMul, Int.reduceToNat, J_shl, J_shr, V_ite, true_or, or_true, nz_j, J_div, J_rem, Option.bind_some, Option.toList_some, Option.toList_none, List.cons_append, List.nil_append]
      by_cases c : R 0 2 ≤ spS S R (t0S R T) (mnS R m)
      · rw [if_pos c]
      · rw [if_neg c, if_pos (by omega)]
  · rw [if_neg hh, decide_eq_false hh, b101_33]
    have h2 := hR' (t0S R T)
    simp (disch := omega) only [b101_42, b101_48, b101_93, gO_R h2.1, gR_R3 h2.1, gR_R4 h2.1, al_R1 h2.1, al_R2 h2.1, rd_R1 h2.1, rd_R2 h2.1, vR_0 h2, vR_1 h2, vR_2 h2, Jl0, Jl1, Jl2, Jl3, Jl4, Jl5, Jl6, Jl7, Jl8, Jl9, Jl10, Jl11, Jl12, Jl13, Jl14, Jl15, Jl16, Jl17, Jl18, Jl19, Jl20, Jl22, Jl24, Jl28, Jl30, Jl31, Jl32, Jl35, Jl36, Jl37, Jl38, Jl39, Jl40, Jl48, Jl57, Jl59, Jl60, Jl61, Jl63, Jl64, Jl68, Jl69, Jl96, Jl97, Jl98, Jl99, Jl100, Jl122, Jl149, Jl150, Jl165, Jl255, Jl511, Jl512, Jl600, Jl610, Jl940, Jl968, Jl999, Jl1134, Jl1152, Jl2048, Jl4608, Jl9999, Jl99999, Jl100000, Jl147456, Jl12345, Jl1103515245, Jl100000000, Jlm1, Jlm2, J_add, J_sub, J_mul, J_lt, J_le, J_eq, J_ite, J_cl, ri_j, wi_j, b2i_z, b2i_o, b2i_zo, Int.cast_ofNat_Int, Int.natCast_zero, Int.natCast_one, if_true, if_false, ite_self, Int.le_refl, J_bit, J_or, J_neg, J_oN, Int.reduceEq, Int.reduceLT, Int.reduceLE, Int.reduceNeg, Int.reduceAdd, Int.reduceSub, Int.reduceMul, Int.reduceToNat, J_shl, J_shr, V_ite, true_or, or_true, nz_j, J_div, J_rem, Option.bind_some, Option.toList_some, Option.toList_none, List.cons_append, List.nil_append]
end TRAIL
