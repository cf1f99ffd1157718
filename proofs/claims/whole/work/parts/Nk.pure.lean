/-! WAYS that meet none of a set -/
def wA (S L : Nat → Int → Int) (s n h u : Int) : Int := wgQ S (fun z => apQ z s) (cnQ S L n) h u
section WAYS
variable {S L C : Nat → Int → Int} {s n h u t w : Int}
theorem ap_so {z a s : Int} (hz : 0 ≤ z) (ha : 0 ≤ a) : apQ (so z a) s = (apQ z s && apQ a s) := by
  rw [Bool.eq_iff_iff, Bool.and_eq_true]
  unfold apQ
  rw [al_iff _ (by omega), al_iff _ (by omega), al_iff _ (by omega)]
  constructor
  · intro k
    refine ⟨fun j y1 y2 => ?_, fun j y1 y2 => ?_⟩
    · have x := k j y1 y2
      rw [tb_so _ _ _ hz ha] at x
      cases h1 : tb z j <;> cases h2 : tb s j <;> simp_all
    · have x := k j y1 y2
      rw [tb_so _ _ _ hz ha] at x
      cases h1 : tb a j <;> cases h2 : tb s j <;> simp_all
  · rintro ⟨k, l⟩ j y1 y2
    have x := k j y1 y2
    have y := l j y1 y2
    rw [tb_so _ _ _ hz ha]
    cases h1 : tb z j <;> cases h2 : tb a j <;> cases h3 : tb s j <;> simp_all
theorem wA_0 (hV : SV S) : wA S L s 0 h u = if h = 0 ∧ u = 0 ∧ apQ (abQ S L 0 0) s = true then 1 else 0 := wg_0 hV _ h u
theorem wA_s (hV : SV S) (hn : 0 ≤ n) : wA S L s (n + 1) t w = if apQ (abQ S L t w) s = true then sm (fun h => sm (fun u => if S 1 (h * 8 + t) ≠ 0 ∧ u + S 1 (h * 8 + t) = w then wA S L s n h u else 0) 36) (S 0 0) else 0 := by
  have v := hV.1
  have ab := abQ_b (S := S) (L := L) hV (h := t) (u := w)
  unfold wA
  rw [cnQ_s hn, wg_s hV]
  have e : ∀ h u, wgQ S (fun z => apQ (so z (abQ S L t w)) s) (cnQ S L n) h u = if apQ (abQ S L t w) s = true then wgQ S (fun z => apQ z s) (cnQ S L n) h u else 0 := fun h u => by
    cases ha : apQ (abQ S L t w) s with
    | true =>
      rw [if_pos rfl]
      exact sm_congr _ _ (fun z q1 q2 => by
        have e := ap_so (s := s) q1 ab.1
        rw [ha, Bool.and_true] at e
        simp only [e])
    | false =>
      rw [if_neg (by decide)]
      exact sm_z _ (by omega) (fun z q1 q2 => by
        have e := ap_so (s := s) q1 ab.1
        rw [ha, Bool.and_false] at e
        simp only [e, Bool.false_eq_true, if_false])
  simp only [e]
  cases ha : apQ (abQ S L t w) s with
  | true => simp only [if_true]
  | false =>
    simp only [Bool.false_eq_true, if_false, ite_self]
    exact sm_z _ (by omega) (fun h _ _ => sm_z _ (by omega) (fun u _ _ => rfl))
/-- each door takes a unit at least -/
theorem wA_z (hV : SV S) : ∀ (n : Nat) (h u : Int), 0 ≤ h → h < S 0 0 → 0 ≤ u → u < n → wA S L s n h u = 0 := by
  have v := hV.1
  intro n
  induction n with
  | zero => intro h u _ _ q1 q2; omega
  | succ n ih =>
    intro h u q1 q2 q3 q4
    rw [show ((n + 1 : Nat) : Int) = (n : Int) + 1 by omega, wA_s hV (by omega)]
    split
    · refine sm_z _ (by omega) (fun a y1 y2 => sm_z _ (by omega) (fun b y3 y4 => ?_))
      have vd := hV.2.1 (a * 8 + h) (by omega) (by omega)
      split
      · rename_i c
        exact ih a b y1 y2 y3 (by omega)
      · rfl
    · rfl
theorem wA_b (hV : SV S) (hn : 0 ≤ n ∧ n ≤ 7) : 0 ≤ wA S L s n h u ∧ wA S L s n h u ≤ 2097152 := by
  have v := hV.1
  have pp := p2_0 (S 0 3)
  have h3 : p8 n ≤ 2097152 := by
    unfold p8
    have : 8 ^ n.toNat ≤ 8 ^ 7 := Nat.pow_le_pow_right (by decide) (by omega)
    omega
  have h8 := wg_8 (S := S) (L := L) hV hn.1 (h := h) (u := u)
  have hle : wA S L s n h u ≤ wgQ S (fun _ => true) (cnQ S L n) h u := sm_le _ _ (by omega) (fun z _ _ => by
    have := cn_n (S := S) (L := L) hV hn.1 (h := h) (u := u) (s := z)
    rw [if_pos rfl]
    split <;> omega)
  exact ⟨wg_n hV hn.1, by omega⟩
/-- told so: who is met, who isn't -/
def rqS (C : Nat → Int → Int) (f : Bool) (n : Int) : Int := fo (fun k x => if decide (10 ≤ C 1 k) = f then so x (p2 (C 1 k % 10)) else x) 0 n
theorem rqS_s {f : Bool} (hn : 0 ≤ n) : rqS C f (n + 1) = if decide (10 ≤ C 1 n) = f then so (rqS C f n) (p2 (C 1 n % 10)) else rqS C f n := fo_s _ _ hn
theorem rqS_b {f : Bool} (hC : CV C) (hn : 0 ≤ n ∧ n ≤ C 0 0) : 0 ≤ rqS C f n ∧ rqS C f n < 512 := by
  refine fo_ind (fun i (x : Int) => i ≤ C 0 0 → 0 ≤ x ∧ x < 512) _ _ hn.1 (fun _ => by omega) (fun i x q1 q2 q3 q4 => ?_) hn.2
  have c := hC.2 i q1 (by omega)
  have x1 := q3 (by omega)
  split
  · have p1 := p2_0 (C 1 i % 10)
    have p2' := p2_le (k := C 1 i % 10) (m := 8) (by omega)
    rw [show p2 8 = 256 from by decide] at p2'
    have := so_p2 (s := x) (t := p2 (C 1 i % 10)) (k := 9) (by rw [show p2 9 = 512 from by decide]; exact x1) (by rw [show p2 9 = 512 from by decide]; omega)
    rw [show p2 9 = 512 from by decide] at this
    exact this
  · exact x1
theorem rqS_t {f : Bool} (hC : CV C) {j : Int} (hj : 0 ≤ j) (hn : 0 ≤ n ∧ n ≤ C 0 0) : tb (rqS C f n) j = an (fun k => decide (decide (10 ≤ C 1 k) = f) && decide (C 1 k % 10 = j)) n := by
  obtain ⟨m, rfl⟩ : ∃ m : Nat, n = m := ⟨n.toNat, by omega⟩
  induction m with
  | zero => exact tb_0 j
  | succ m ih =>
    have i1 := ih (by omega)
    have b := rqS_b (f := f) hC (n := (m : Int)) (by omega)
    have c := hC.2 m (by omega) (by omega)
    have pp := p2_0 (C 1 m % 10)
    rw [show ((m + 1 : Nat) : Int) = (m : Int) + 1 by omega, rqS_s (by omega), an_s _ (by omega)]
    by_cases cf : decide (10 ≤ C 1 m) = f
    · rw [if_pos cf, tb_so _ _ _ b.1 (by omega), i1, tb_p2 (by omega) hj, decide_eq_true cf, Bool.true_and]
    · rw [if_neg cf, i1, decide_eq_false cf, Bool.false_and, Bool.or_false]
theorem so_Q (hC : CV C) {z : Int} : soQ C z = (apQ z (rqS C false (C 0 0)) && suQ (rqS C true (C 0 0)) z) := by
  have c0 := hC.1
  rw [Bool.eq_iff_iff, Bool.and_eq_true]
  unfold soQ apQ suQ
  rw [al_iff _ (by omega), al_iff _ (by omega), al_iff _ (by omega)]
  constructor
  · intro k
    refine ⟨fun j y1 y2 => ?_, fun j y1 y2 => ?_⟩
    · rw [rqS_t hC y1 (by omega)]
      cases hz : tb z j with
      | false => rfl
      | true =>
        cases ha : an (fun k => decide (decide (10 ≤ C 1 k) = false) && decide (C 1 k % 10 = j)) (C 0 0) with
        | false => rfl
        | true =>
          obtain ⟨i, i1, i2, i3⟩ := (an_iff _ (by omega)).mp ha
          rw [Bool.and_eq_true] at i3
          have x3 := of_decide_eq_true i3.1
          have x4 := of_decide_eq_true i3.2
          have x := k i i1 i2
          rw [x4, x3, hz] at x
          cases x
    · rw [rqS_t hC y1 (by omega)]
      cases hz : tb z j with
      | true => rw [Bool.or_true]
      | false =>
        cases ha : an (fun k => decide (decide (10 ≤ C 1 k) = true) && decide (C 1 k % 10 = j)) (C 0 0) with
        | false => rfl
        | true =>
          obtain ⟨i, i1, i2, i3⟩ := (an_iff _ (by omega)).mp ha
          rw [Bool.and_eq_true] at i3
          have x3 := of_decide_eq_true i3.1
          have x4 := of_decide_eq_true i3.2
          have x := k i i1 i2
          rw [x4, x3, hz] at x
          cases x
  · rintro ⟨k, l⟩ i i1 i2
    have c := hC.2 i i1 i2
    have j0 : 0 ≤ C 1 i % 10 ∧ C 1 i % 10 < 9 := by omega
    have x := k (C 1 i % 10) j0.1 j0.2
    have y := l (C 1 i % 10) j0.1 j0.2
    rw [rqS_t hC j0.1 (by omega)] at x y
    cases hf : decide (10 ≤ C 1 i) with
    | false =>
      have ha : an (fun k => decide (decide (10 ≤ C 1 k) = false) && decide (C 1 k % 10 = C 1 i % 10)) (C 0 0) = true := (an_iff _ (by omega)).mpr ⟨i, i1, i2, by rw [hf, decide_eq_true rfl, decide_eq_true rfl]; rfl⟩
      rw [ha] at x
      cases hz : tb z (C 1 i % 10) with
      | false => rfl
      | true => rw [hz] at x; cases x
    | true =>
      have ha : an (fun k => decide (decide (10 ≤ C 1 k) = true) && decide (C 1 k % 10 = C 1 i % 10)) (C 0 0) = true := (an_iff _ (by omega)).mpr ⟨i, i1, i2, by rw [hf, decide_eq_true rfl, decide_eq_true rfl]; rfl⟩
      rw [ha] at y
      cases hz : tb z (C 1 i % 10) with
      | true => rfl
      | false => rw [hz] at y; cases y
/-- ways told so, by those that meet none of sets -/
theorem ea_IE (hV : SV S) (hC : CV C) : sm (fun x => if suQ x (rqS C true (C 0 0)) = true then sgQ x * wA S L (so (rqS C false (C 0 0)) x) n h u else 0) 512 = eaQ S L C n h u := by
  have v := hV.1
  have pp := p2_0 (S 0 3)
  have c0 := hC.1
  have b1 := rqS_b (f := true) hC (n := C 0 0) (by omega)
  have b2 := rqS_b (f := false) hC (n := C 0 0) (by omega)
  have e1 : sm (fun x => if suQ x (rqS C true (C 0 0)) = true then sgQ x * wA S L (so (rqS C false (C 0 0)) x) n h u else 0) 512 = sm (fun x => sm (fun z => cnQ S L n h u z * (if suQ x (rqS C true (C 0 0)) = true then sgQ x * (if apQ z (so (rqS C false (C 0 0)) x) = true then 1 else 0) else 0)) (p2 (S 0 3))) 512 := sm_congr _ _ (fun x q1 q2 => by
    cases hx : suQ x (rqS C true (C 0 0)) with
    | true =>
      rw [if_pos rfl]
      unfold wA wgQ
      rw [← sm_mul _ _ (by omega)]
      refine sm_congr _ _ (fun z y1 y2 => ?_)
      dsimp only
      rw [if_pos rfl]
      by_cases ca : apQ z (so (rqS C false (C 0 0)) x) = true
      · rw [if_pos ca, if_pos ca, Int.mul_one, Int.mul_comm]
      · rw [if_neg ca, if_neg ca, Int.mul_zero, Int.mul_zero]
    | false =>
      rw [if_neg (by decide)]
      symm
      exact sm_z _ (by omega) (fun z _ _ => by rw [if_neg (by decide), Int.mul_zero]))
  rw [e1, sm_swap _ (by omega) (by omega)]
  unfold eaQ wgQ
  refine sm_congr _ _ (fun z y1 y2 => ?_)
  rw [sm_mul _ _ (by omega), IE_z b2.1 y1 b1.1, so_Q hC]
  by_cases ca : (apQ z (rqS C false (C 0 0)) && suQ (rqS C true (C 0 0)) z) = true
  · rw [if_pos ca, if_pos ca, Int.mul_one]
  · rw [if_neg ca, if_neg ca, Int.mul_zero]
theorem ap_sn {a b : Int} (ha : 0 ≤ a ∧ a < 512) (hb : 0 ≤ b) : (sn2 a b = 0) = (apQ a b = true) := by
  apply propext
  constructor
  · intro k
    refine (al_iff _ (by omega)).mpr (fun j y1 y2 => ?_)
    rw [← tb_sn2, k, tb_0]
    rfl
  · intro k
    have l := (al_iff _ (by omega)).mp k
    refine tb_ext (sn2_b ha.1).1 (by omega) (fun j y1 => ?_)
    rw [tb_sn2, tb_0]
    by_cases c : j < 9
    · have := l j y1 c
      cases h1 : (tb a j && tb b j) with
      | false => rfl
      | true => rw [h1] at this; cases this
    · rw [tb_lt (n := 9) (by rw [show p2 9 = 512 from by decide]; exact ha) (by omega) (by omega), Bool.false_and]
end WAYS
