/-! WHICH WAY HE WENT: rows of houses, counted -/
def abQ (S L : Nat → Int → Int) (h u : Int) : Int := bs (fun k => decide (L 0 0 < rdN S (siS S) tST k u) && decide (S 3 k = h)) (S 0 3)
def cn0 (S L : Nat → Int → Int) (h u s : Int) : Int := if h = 0 ∧ u = 0 ∧ s = abQ S L 0 0 then 1 else 0
/-- what one house at one unit gives to another -/
def cnG (S L : Nat → Int → Int) (R : Int → Int → Int → Int) (h u t w s : Int) : Int := if S 1 (h * 8 + t) ≠ 0 ∧ u + S 1 (h * 8 + t) = w then sm (fun z => if so z (abQ S L t w) = s then R h u z else 0) (p2 (S 0 3)) else 0
def cn1 (S L : Nat → Int → Int) (R : Int → Int → Int → Int) : Int → Int → Int → Int := fun t w s => sm (fun h => sm (fun u => cnG S L R h u t w s) 36) (S 0 0)
def cnQ (S L : Nat → Int → Int) (i : Int) : Int → Int → Int → Int := fo (fun _ R => cn1 S L R) (cn0 S L) i
theorem cnQ_s {S L : Nat → Int → Int} {i : Int} (h : 0 ≤ i) : cnQ S L (i + 1) = cn1 S L (cnQ S L i) := fo_s _ _ h
theorem abQ_b {S L : Nat → Int → Int} (hV : SV S) {h u : Int} : 0 ≤ abQ S L h u ∧ abQ S L h u < p2 (S 0 3) := bs_b _ (by have := hV.1; omega)
/-- all of some kind -/
def wgQ (S : Nat → Int → Int) (φ : Int → Bool) (R : Int → Int → Int → Int) (h u : Int) : Int := sm (fun s => if φ s = true then R h u s else 0) (p2 (S 0 3))
theorem sm_le (f g : Int → Int) {n : Int} (hn : 0 ≤ n) (h : ∀ i, 0 ≤ i → i < n → f i ≤ g i) : sm f n ≤ sm g n := by
  have := fo_ind (fun i x => i ≤ n → x ≤ sm g i) (fun i x => x + f i) 0 hn (fun _ => Int.le_refl _) (fun i x h1 h2 h3 h4 => by
    rw [sm_s _ h1]
    have := h i h1 h2
    have := h3 (by omega)
    omega)
  exact this (Int.le_refl n)
theorem sm_swap (f : Int → Int → Int) {n m : Int} (hn : 0 ≤ n) (hm : 0 ≤ m) : sm (fun i => sm (fun j => f i j) m) n = sm (fun j => sm (fun i => f i j) n) m := by
  refine fo_ind (fun k x => x = sm (fun j => sm (fun i => f i j) k) m) _ _ hn (sm_z _ hm (fun _ _ _ => rfl)).symm ?_
  intro k x h1 h2 h3
  rw [h3, ← sm_add _ _ hm]
  exact sm_congr _ _ (fun j g1 g2 => by rw [sm_s _ h1])
theorem sm_mul (f : Int → Int) (a : Int) {n : Int} (hn : 0 ≤ n) : sm (fun i => a * f i) n = a * sm f n := by
  refine fo_ind (fun k x => x = a * sm f k) _ _ hn (by rw [sm_0, Int.mul_zero]) ?_
  intro k x h1 h2 h3
  rw [h3, sm_s _ h1, Int.mul_add]
/-- one of them -/
theorem sm_one (f : Int → Int) {n a : Int} (ha : 0 ≤ a ∧ a < n) (h : ∀ i, 0 ≤ i → i < n → i ≠ a → f i = 0) : sm f n = f a := by
  have h1 := sm_up (fun _ => 0) f ha (fun v g1 g2 g3 => by rw [h v g1 g2 g3])
  rw [sm_z (fun _ => 0) (by omega) (fun _ _ _ => rfl)] at h1
  omega
section WENT
variable {S L : Nat → Int → Int}
/-- a further go, by kinds -/
theorem wg_s (hV : SV S) (φ : Int → Bool) (R : Int → Int → Int → Int) (t w : Int) : wgQ S φ (cn1 S L R) t w = sm (fun h => sm (fun u => if S 1 (h * 8 + t) ≠ 0 ∧ u + S 1 (h * 8 + t) = w then wgQ S (fun z => φ (so z (abQ S L t w))) R h u else 0) 36) (S 0 0) := by
  have v := hV.1
  have pp := p2_0 (S 0 3)
  have ab := abQ_b (L := L) hV (h := t) (u := w)
  unfold wgQ cn1
  have e1 : sm (fun s => if φ s = true then sm (fun h => sm (fun u => cnG S L R h u t w s) 36) (S 0 0) else 0) (p2 (S 0 3)) = sm (fun s => sm (fun h => sm (fun u => if φ s = true then cnG S L R h u t w s else 0) 36) (S 0 0)) (p2 (S 0 3)) := sm_congr _ _ (fun s _ _ => by
    cases φ s
    · simp only [Bool.false_eq_true, if_false]
      exact (sm_z _ (by omega) (fun _ _ _ => sm_z _ (by omega) (fun _ _ _ => rfl))).symm
    · simp only [if_true])
  rw [e1, sm_swap _ (by omega) (by omega)]
  refine sm_congr _ _ (fun h _ _ => ?_)
  rw [sm_swap _ (by omega) (by omega)]
  refine sm_congr _ _ (fun u _ _ => ?_)
  unfold cnG
  by_cases c : S 1 (h * 8 + t) ≠ 0 ∧ u + S 1 (h * 8 + t) = w
  · simp only [if_pos c]
    have e2 : sm (fun s => if φ s = true then sm (fun z => if so z (abQ S L t w) = s then R h u z else 0) (p2 (S 0 3)) else 0) (p2 (S 0 3)) = sm (fun s => sm (fun z => if φ s = true ∧ so z (abQ S L t w) = s then R h u z else 0) (p2 (S 0 3))) (p2 (S 0 3)) := sm_congr _ _ (fun s _ _ => by
      cases φ s
      · simp only [Bool.false_eq_true, if_false, false_and]
        exact (sm_z _ (by omega) (fun _ _ _ => rfl)).symm
      · simp only [if_true, true_and])
    rw [e2, sm_swap _ (by omega) (by omega)]
    refine sm_congr _ _ (fun z g1 g2 => ?_)
    have sob := so_p2 (s := z) (t := abQ S L t w) (k := S 0 3) ⟨g1, g2⟩ ab
    rw [sm_one _ sob (fun s _ _ q => if_neg (fun r => q r.2.symm))]
    simp only [and_true]
  · simp only [if_neg c]
    exact sm_z _ (by omega) (fun s _ _ => by split <;> rfl)
theorem wg_0 (hV : SV S) (φ : Int → Bool) (h u : Int) : wgQ S φ (cn0 S L) h u = if h = 0 ∧ u = 0 ∧ φ (abQ S L 0 0) = true then 1 else 0 := by
  have pp := p2_0 (S 0 3)
  have ab := abQ_b (L := L) hV (h := 0) (u := 0)
  unfold wgQ cn0
  rw [sm_one _ ab (fun s _ _ q => by
    split
    · exact if_neg (fun r => q r.2.2)
    · rfl)]
  cases φ (abQ S L 0 0) <;> simp
/-- counts are counts -/
theorem cn_n (hV : SV S) {i : Int} (hi : 0 ≤ i) {h u s : Int} : 0 ≤ cnQ S L i h u s := by
  have v := hV.1
  have pp := p2_0 (S 0 3)
  have key : ∀ j : Nat, ∀ h u s, 0 ≤ cnQ S L j h u s := by
    intro j
    induction j with
    | zero =>
      intro h u s
      show 0 ≤ cn0 S L h u s
      unfold cn0
      split <;> omega
    | succ j ih =>
      intro h u s
      rw [show ((j + 1 : Nat) : Int) = (j : Int) + 1 by omega, cnQ_s (by omega)]
      unfold cn1
      have := sm_le (fun _ => 0) (fun h' => sm (fun u' => cnG S L (cnQ S L j) h' u' h u s) 36) (n := S 0 0) (by omega) (fun h' _ _ => by
        have := sm_le (fun _ => 0) (fun u' => cnG S L (cnQ S L j) h' u' h u s) (n := 36) (by omega) (fun u' _ _ => by
          unfold cnG
          split
          · have := sm_le (fun _ => 0) (fun z => if so z (abQ S L h u) = s then cnQ S L j h' u' z else 0) (n := p2 (S 0 3)) (by omega) (fun z _ _ => by
              split
              · exact ih h' u' z
              · exact Int.le_refl _)
            rwa [sm_z (fun _ => 0) (by omega) (fun _ _ _ => rfl)] at this
          · exact Int.le_refl _)
        rwa [sm_z (fun _ => 0) (by omega) (fun _ _ _ => rfl)] at this)
      rwa [sm_z (fun _ => 0) (by omega) (fun _ _ _ => rfl)] at this
  have := key i.toNat h u s
  rwa [show ((i.toNat : Nat) : Int) = i by omega] at this
theorem wg_n (hV : SV S) {φ : Int → Bool} {i h u : Int} (hi : 0 ≤ i) : 0 ≤ wgQ S φ (cnQ S L i) h u := by
  have pp := p2_0 (S 0 3)
  unfold wgQ
  have := sm_le (fun _ => 0) (fun s => if φ s = true then cnQ S L i h u s else 0) (n := p2 (S 0 3)) (by omega) (fun s _ _ => by
    split
    · exact cn_n hV hi
    · exact Int.le_refl _)
  rwa [sm_z (fun _ => 0) (by omega) (fun _ _ _ => rfl)] at this
def p8 (i : Int) : Int := ((8 ^ i.toNat : Nat) : Int)
theorem p8_s {j : Int} (h : 0 ≤ j) : p8 (j + 1) = p8 j * 8 := by
  unfold p8
  rw [show (j + 1).toNat = j.toNat + 1 by omega, Nat.pow_succ]
  omega
/-- no more than eight ways on -/
theorem wg_8 (hV : SV S) {i : Int} (hi : 0 ≤ i) {h u : Int} : wgQ S (fun _ => true) (cnQ S L i) h u ≤ p8 i := by
  have v := hV.1
  have key : ∀ j : Nat, ∀ h u, wgQ S (fun _ => true) (cnQ S L j) h u ≤ p8 j := by
    intro j
    induction j with
    | zero =>
      intro h u
      have e : cnQ S L ((0 : Nat) : Int) = cn0 S L := rfl
      rw [e, wg_0 hV, show p8 ((0 : Nat) : Int) = 1 from rfl]
      split <;> omega
    | succ j ih =>
      intro t w
      rw [show ((j + 1 : Nat) : Int) = (j : Int) + 1 by omega, cnQ_s (by omega), wg_s hV, p8_s (by omega)]
      have h1 := sm_b (fun h => sm (fun u => if S 1 (h * 8 + t) ≠ 0 ∧ u + S 1 (h * 8 + t) = w then wgQ S (fun z => true) (cnQ S L j) h u else 0) 36) (n := S 0 0) (A := 0) (B := p8 j) (by omega) (fun h g1 g2 => by
        by_cases c : 0 ≤ w - S 1 (h * 8 + t) ∧ w - S 1 (h * 8 + t) < 36
        · rw [sm_one (fun u => if S 1 (h * 8 + t) ≠ 0 ∧ u + S 1 (h * 8 + t) = w then wgQ S (fun z => true) (cnQ S L j) h u else 0) c (fun u _ _ q => if_neg (fun r => q (by omega)))]
          have := ih h (w - S 1 (h * 8 + t))
          have := wg_n (L := L) hV (φ := fun _ => true) (i := j) (h := h) (u := w - S 1 (h * 8 + t)) (by omega)
          split <;> omega
        · rw [sm_z _ (by omega) (fun u q1 q2 => if_neg (fun r => c (by omega)))]
          have := ih 0 0
          have := wg_n (L := L) hV (φ := fun _ => true) (i := j) (h := 0) (u := 0) (by omega)
          omega)
      have h2 : p8 j * S 0 0 ≤ p8 j * 8 := Int.mul_le_mul_of_nonneg_left (by omega) (by unfold p8; exact Int.natCast_nonneg _)
      omega
  have := key i.toNat h u
  rwa [show ((i.toNat : Nat) : Int) = i by omega] at this
theorem cn_b (hV : SV S) {i : Int} (hi : 0 ≤ i ∧ i ≤ 7) {h u s : Int} (hs : 0 ≤ s ∧ s < p2 (S 0 3)) : 0 ≤ cnQ S L i h u s ∧ cnQ S L i h u s ≤ 2097152 := by
  have h0 := cn_n (L := L) hV hi.1 (h := h) (u := u) (s := s)
  refine ⟨h0, ?_⟩
  have h1 := wg_8 (L := L) hV hi.1 (h := h) (u := u)
  have h2 : cnQ S L i h u s ≤ wgQ S (fun _ => true) (cnQ S L i) h u := by
    have e := sm_le (fun z => if z = s then cnQ S L i h u s else 0) (fun z => if (fun _ => true : Int → Bool) z = true then cnQ S L i h u z else 0) (n := p2 (S 0 3)) (by omega) (fun z _ _ => by
      simp only [if_true]
      split
      · rename_i q; rw [q]; omega
      · exact cn_n hV hi.1)
    rw [sm_one (fun z => if z = s then cnQ S L i h u s else 0) hs (fun z _ _ q => if_neg q), if_pos rfl] at e
    exact e
  have h3 : p8 i ≤ 2097152 := by
    unfold p8
    have : 8 ^ i.toNat ≤ 8 ^ 7 := Nat.pow_le_pow_right (by decide) (by omega)
    omega
  omega
end WENT
/-- told so, or not -/
def soQ (C : Nat → Int → Int) (s : Int) : Bool := al (fun k => tb s (C 1 k % 10) == decide (10 ≤ C 1 k)) (C 0 0)
def fitQ (C S : Nat → Int → Int) : Bool := al (fun k => decide (C 1 k % 10 < S 0 3)) (C 0 0)
def eaQ (S L C : Nat → Int → Int) (n h u : Int) : Int := wgQ S (soQ C) (cnQ S L n) h u
