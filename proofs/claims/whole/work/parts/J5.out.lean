/-! A LINE, as both take it: which numbers it may have, where it is wrong, what it tells -/
def gl (l : List Int) (i : Int) : Int := l.getD i.toNat 0
def bAt : List Int := [0, 1, 4, 5, 5, 5, 5, 11, 11, 13, 15, 16, 17, 18, 19, 21, 21, 23, 24, 24, 25, 25]
def nAt : List Int := [1, 3, 1, 6, 6, 6, 6, 2, 2, 2, 1, 1, 1, 1, 2, 0, 2, 1, 0, 1, 1, 1]
def loL : List Int := [1, 0, 0, 1, 0, 0, 0, 0, 1, 1, 0, 0, 0, 0, 0, 0, 1, 0, 0, 0, 0, 0, 0, 0, 1, 0]
def hiL : List Int := [8, 7, 7, 9, 7, 7, 3, 35, 36, 9, 60, 8, 35, 8, 8, 60, 999, 99, 7, 8, 9, 7, 35, 7, 35, 8]
def cbQ (ln i : Int) (V : Int → Int) : Bool := decide ((gl loL (gl bAt ln + i) ≤ V i ∧ V i ≤ gl hiL (gl bAt ln + i)) ∧ (if i = 1 ∧ (ln = 1 ∨ ln = 9) then ¬ V 1 = V 0 else ¬ (3 ≤ ln ∧ ln ≤ 6) ∨ ¬ i = 3 ∨ V 2 < V 3))
def cq (cb : Bool) (q : Int × Int) (w : Int) : Int × Int := if q.1 = 0 ∧ cb = false then (2, w) else q
def wn (B : Int → Int) (n w : Int) : Nat → Int
  | 0 => w
  | k + 1 => nx B n (wn B n w k)
/-- the numbers from w on -/
def vv (B : Int → Int) (n w i : Int) : Int := nv B n (wn B n w i.toNat)
def qF (cb : Int → Bool) (B : Int → Int) (n : Int) : Nat → Int → Int → Int × Int → Int × Int
  | 0, _, _, q => q
  | k + 1, i, w, q => qF cb B n k (i + 1) (nx B n w) (cq (cb i) q w)
def nOf (ln : Int) : Nat := (gl nAt ln).toNat
/-- the fault behind a line -/
def lnQ (B : Int → Int) (n w ln : Int) (full : Bool) (q : Int × Int) : Int × Int := qF (fun i => cbQ ln i (vv B n (nx B n w))) B n (nOf ln) 0 (nx B n w) (fq q full w)
/-- what became of the reference by a line -/
def LOut (B : Int → Int) (n : Int) (M M' : Nat → Int → Int) (w ln : Int) (q' : Int × Int) (C : Prop) : Prop := FrT M M' ∧ (∀ p, lnW B n (nOf ln) (nx B n w) = some p → WRs M' p) ∧ (lnW B n (nOf ln) (nx B n w) = none → OKs B n M' (enW B n (nOf ln) (nx B n w)) q' ∧ C)
section CB
variable {B : Int → Int} {n w x y a b ln i : Int} {q : Int × Int} {cb : Bool} {V : Int → Int}
theorem cb_i (h1 : gl loL (gl bAt ln + i) = a) (h2 : gl hiL (gl bAt ln + i) = b) (h3 : ¬ (i = 1 ∧ (ln = 1 ∨ ln = 9))) (h4 : ¬ (3 ≤ ln ∧ ln ≤ 6) ∨ ¬ i = 3) : (cbQ ln i V = true) = (a ≤ V i ∧ V i ≤ b) := by
  unfold cbQ
  rw [decide_eq_true_eq, h1, h2, if_neg h3]
  apply propext
  exact ⟨fun z => z.1, fun z => ⟨z, by rcases h4 with h | h; exact Or.inl h; exact Or.inr (Or.inl h)⟩⟩
theorem cb_1 (h1 : gl loL (gl bAt ln + 1) = a) (h2 : gl hiL (gl bAt ln + 1) = b) (h3 : ln = 1 ∨ ln = 9) : (cbQ ln 1 V = true) = (a ≤ V 1 ∧ V 1 ≤ b ∧ ¬ V 1 = V 0) := by
  unfold cbQ
  rw [decide_eq_true_eq, h1, h2, if_pos ⟨rfl, h3⟩]
  apply propext
  exact ⟨fun z => ⟨z.1.1, z.1.2, z.2⟩, fun z => ⟨⟨z.1, z.2.1⟩, z.2.2⟩⟩
theorem cb_3 (h1 : gl loL (gl bAt ln + 3) = a) (h2 : gl hiL (gl bAt ln + 3) = b) (h3 : 3 ≤ ln ∧ ln ≤ 6) : (cbQ ln 3 V = true) = ((a ≤ V 3 ∧ V 3 ≤ b) ∧ V 2 < V 3) := by
  unfold cbQ
  rw [decide_eq_true_eq, h1, h2, if_neg (by omega)]
  apply propext
  exact ⟨fun z => ⟨z.1, by rcases z.2 with h | h | h; exact absurd h3 h; exact absurd rfl h; exact h⟩, fun z => ⟨z.1, Or.inr (Or.inr z.2)⟩⟩
theorem nq_cq (h : q.1 = 0 → (cb = true) = (x ≤ nv B n w ∧ nv B n w ≤ y)) : nq B n q x y w = cq cb q w := by
  unfold nq cq
  by_cases c : q.1 = 0
  · have h' := h c
    cases cb with
    | true => rw [if_neg (fun z => z.2 (h'.mp rfl)), if_neg (by simp)]
    | false => rw [if_pos ⟨c, fun z => absurd (h'.mpr z) (by simp)⟩, if_pos ⟨c, rfl⟩]
  · rw [if_neg (fun z => c z.1), if_neg (fun z => c z.1)]
theorem aq_cq (h : q.1 = 0 → (cb = true) = (x ≤ nv B n w ∧ nv B n w ≤ y ∧ ¬ nv B n w = a)) : aq B n q a x y w = cq cb q w := by
  unfold aq cq
  by_cases c : q.1 = 0
  · have h' := h c
    cases cb with
    | true => rw [if_neg (fun z => z.2 (h'.mp rfl)), if_neg (by simp)]
    | false => rw [if_pos ⟨c, fun z => absurd (h'.mpr z) (by simp)⟩, if_pos ⟨c, rfl⟩]
  · rw [if_neg (fun z => c z.1), if_neg (fun z => c z.1)]
theorem cq_0 (h : (cq cb q w).1 = 0) : q.1 = 0 ∧ cb = true := by
  unfold cq at h
  by_cases c : q.1 = 0
  · refine ⟨c, ?_⟩
    cases cb with
    | true => rfl
    | false => rw [if_pos ⟨c, rfl⟩] at h; exact absurd h (by simp)
  · rw [if_neg (fun z => c z.1)] at h
    exact absurd h c
theorem fq_0 {full : Bool} (h : (fq q full w).1 = 0) : q.1 = 0 ∧ full = false := by
  unfold fq at h
  by_cases c : q.1 = 0
  · refine ⟨c, ?_⟩
    cases full with
    | false => rfl
    | true => rw [if_pos ⟨c, rfl⟩] at h; exact absurd h (by simp)
  · rw [if_neg (fun z => c z.1)] at h
    exact absurd h c
theorem fq_f : fq q false w = q := by
  unfold fq
  rw [if_neg (by simp)]
end CB
/-! SETS and their greatest -/
theorem so_ge {s t : Int} (hs : 0 ≤ s) (ht : 0 ≤ t) : s ≤ so s t ∧ t ≤ so s t := by
  unfold so
  have h1 := Nat.left_le_or (n := s.toNat) (m := t.toNat)
  have h2 := Nat.right_le_or (n := s.toNat) (m := t.toNat)
  omega
theorem p2_lt_iff {a h : Int} (ha : 0 ≤ a) (hh : 0 ≤ h) : p2 a < p2 h ↔ a < h := by
  constructor
  · intro q
    by_cases c : a < h
    · exact c
    · have := p2_le (k := h) (m := a) (by omega)
      omega
  · intro q
    have h1 := p2_s ha
    have h2 := p2_le (k := a + 1) (m := h) (by omega)
    have h3 := p2_0 a
    omega
/-- F is the greatest in s, -1 if there is none -/
def Far (s F : Int) : Prop := 0 ≤ s ∧ ∀ h, 0 ≤ h → (s < p2 h ↔ F < h)
theorem Far_so {s F a : Int} (h : Far s F) (ha : 0 ≤ a) : Far (so s (p2 a)) (if a ≤ F then F else a) := by
  have hp := p2_0 a
  have hg := so_ge h.1 (by omega : 0 ≤ p2 a)
  refine ⟨by omega, fun k hk => ?_⟩
  have h1 := h.2 k hk
  have h2 := p2_lt_iff ha hk
  constructor
  · intro z
    have i1 := h1.mp (by omega)
    have i2 := h2.mp (by omega)
    split <;> omega
  · intro z
    refine (so_p2 (k := k) ⟨h.1, h1.mpr ?_⟩ ⟨by omega, h2.mpr ?_⟩).2
    · split at z <;> omega
    · split at z <;> omega
/-! A STREET that is being told -/
def tlS (ln : Int) (V : Int → Int) (S : Nat → Int → Int) : Nat → Int → Int := if ln = 0 then u3 S 0 0 (V 0) else if ln = 1 then u3 (u3 S 1 (V 0 * 8 + V 1) (V 2)) 1 (V 1 * 8 + V 0) (V 2) else if ln = 2 then u3 S 0 1 (so (S 0 1) (p2 (V 0))) else if ln = 7 then u3 (u3 (u3 S 11 (S 0 13) (V 0)) 12 (S 0 13) (V 1)) 0 13 (S 0 13 + 1) else if ln = 8 then u3 S 9 (V 0) (V 1) else if ln = 9 then u3 S 10 (V 0) (V 1) else u3 (u3 (u3 (u3 (u3 (u3 (u3 (u3 S 2 (S 0 3) (ln - 3)) 3 (S 0 3) (V 0)) 4 (S 0 3) (V 1)) 5 (S 0 3) (V 2)) 6 (S 0 3) (V 3)) 7 (S 0 3) (V 4)) 8 (S 0 3) (V 5)) 0 3 (S 0 3 + 1)
def tlH (ln : Int) (V : Int → Int) (s : Int) : Int := if ln = 1 then so s (so (p2 (V 0)) (p2 (V 1))) else if 2 ≤ ln ∧ ln ≤ 6 then so s (p2 (V 0)) else s
def tlB (ln : Int) (V : Int → Int) (s : Int) : Int := if ln = 7 ∨ ln = 8 then so s (p2 (V 0)) else if ln = 9 then so s (so (p2 (V 0)) (p2 (V 1))) else s
def CSt (M S : Nat → Int → Int) (hb sb : Int) : Prop := (M 3 0 = S 0 0 ∧ M 3 1 = S 0 1 ∧ M 3 2 = S 0 3 ∧ M 3 3 = S 0 13) ∧ (∀ i, 0 ≤ i → i < 64 → M 3 (4 + i) = S 1 i) ∧ (∀ k, 0 ≤ k → k < S 0 3 → M 3 (68 + 9 * k) = S 2 k ∧ M 3 (68 + 9 * k + 1) = S 3 k ∧ M 3 (68 + 9 * k + 2) = S 4 k ∧ M 3 (68 + 9 * k + 3) = S 5 k ∧ M 3 (68 + 9 * k + 4) = S 6 k ∧ M 3 (68 + 9 * k + 5) = S 7 k ∧ M 3 (68 + 9 * k + 6) = S 8 k) ∧ (∀ k, 0 ≤ k → k < 9 → M 3 (68 + 9 * k + 7) = S 9 k ∧ M 3 (68 + 9 * k + 8) = S 10 k) ∧ (∀ v, 0 ≤ v → v < S 0 13 → M 3 (149 + 2 * v) = S 11 v ∧ M 3 (149 + 2 * v + 1) = S 12 v) ∧ Far hb (M 0 9) ∧ Far sb (M 0 10)
def SfS (M : Nat → Int → Int) : Prop := (0 ≤ M 3 2 ∧ M 3 2 ≤ 9) ∧ (0 ≤ M 3 3 ∧ M 3 3 ≤ 8) ∧ 0 ≤ M 3 1 ∧ M 3 1 < 256
theorem elM_f {M : Nat → Int → Int} : (∀ j, 9 ≤ j → elM M 0 j = M 0 j) ∧ ∀ c, 2 ≤ c → elM M c = M c := by
  unfold elM
  split
  · exact ⟨fun j h => advM_f.1 j (by omega), fun c h => advM_f.2.1 c (by omega)⟩
  · exact ⟨endsM_f.1, endsM_f.2.1⟩
theorem tkM_9 {M : Nat → Int → Int} {x y : Int} : ∀ j, 9 ≤ j → tkM M x y 0 j = M 0 j := by
  intro j h
  unfold tkM
  split
  · exact advM_f.1 j (by omega)
  · exact endsM_f.1 j h
theorem htM_9 {M : Nat → Int → Int} : htM M 0 9 = (if nmV M 0 7 ≤ M 0 9 then M 0 9 else nmV M 0 7) ∧ htM M 0 10 = M 0 10 := by
  unfold htM
  exact ⟨u3_s, by rw [u3_n (by omega), nmM_f.1 10 (by omega)]⟩
theorem stM_9 {M : Nat → Int → Int} : stM M 0 10 = (if nmV M 0 8 ≤ M 0 10 then M 0 10 else nmV M 0 8) ∧ stM M 0 9 = M 0 9 := by
  unfold stM
  exact ⟨u3_s, by rw [u3_n (by omega), nmM_f.1 9 (by omega)]⟩
