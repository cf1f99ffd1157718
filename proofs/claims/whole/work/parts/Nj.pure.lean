/-! SUBSETS with signs -/
def sgN : Nat → Nat → Int
  | 0, _ => 1
  | m + 1, x => (if x % 2 = 1 then -1 else 1) * sgN m (x / 2)
def suN : Nat → Nat → Nat → Bool
  | 0, _, _ => true
  | m + 1, x, w => decide (x % 2 ≤ w % 2) && suN m (x / 2) (w / 2)
theorem sgN_s {m x : Nat} : sgN (m + 1) x = (if x % 2 = 1 then -1 else 1) * sgN m (x / 2) := rfl
theorem suN_s {m x w : Nat} : suN (m + 1) x w = (decide (x % 2 ≤ w % 2) && suN m (x / 2) (w / 2)) := rfl
theorem suN_t : ∀ (m x w : Nat), suN m x w = true ↔ ∀ j, j < m → x.testBit j = true → w.testBit j = true := by
  intro m
  induction m with
  | zero => intro x w; exact ⟨fun _ j h => by omega, fun _ => rfl⟩
  | succ m ih =>
    intro x w
    rw [suN_s, Bool.and_eq_true, decide_eq_true_eq, ih]
    constructor
    · rintro ⟨h1, h2⟩ j hj hx
      cases j with
      | zero =>
        rw [Nat.testBit_zero, decide_eq_true_eq] at hx ⊢
        omega
      | succ j =>
        rw [Nat.testBit_succ] at hx ⊢
        exact h2 j (by omega) hx
    · intro h
      refine ⟨?_, fun j hj hx => ?_⟩
      · have := h 0 (by omega)
        rw [Nat.testBit_zero, Nat.testBit_zero, decide_eq_true_eq, decide_eq_true_eq] at this
        omega
      · have := h (j + 1) (by omega)
        rw [Nat.testBit_succ, Nat.testBit_succ] at this
        exact this hx
theorem sm_2 (f : Int → Int) {n : Int} (hn : 0 ≤ n) : sm f (n * 2) = sm (fun x => f (x * 2) + f (x * 2 + 1)) n := by
  obtain ⟨m, rfl⟩ : ∃ m : Nat, n = m := ⟨n.toNat, by omega⟩
  clear hn
  induction m with
  | zero => rfl
  | succ m ih =>
    rw [show ((m + 1 : Nat) : Int) * 2 = (m : Int) * 2 + 1 + 1 by omega, sm_s _ (by omega), sm_s _ (by omega), ih, show ((m + 1 : Nat) : Int) = (m : Int) + 1 by omega, sm_s _ (by omega)]
    omega
theorem IE_m : ∀ (m w : Nat), sm (fun x => if suN m x.toNat w = true then sgN m x.toNat else 0) (p2 (m : Int)) = if suN m w 0 = true then 1 else 0 := by
  intro m
  induction m with
  | zero =>
    intro w
    rw [show p2 ((0 : Nat) : Int) = 0 + 1 from rfl, sm_s _ (by omega)]
    rfl
  | succ m ih =>
    intro w
    have pp := p2_0 (m : Int)
    rw [show ((m + 1 : Nat) : Int) = (m : Int) + 1 by omega, p2_s (by omega), Int.mul_comm 2 (p2 (m : Int)), sm_2 _ (by omega)]
    have e : sm (fun x => (if suN (m + 1) (x * 2).toNat w = true then sgN (m + 1) (x * 2).toNat else 0) + (if suN (m + 1) (x * 2 + 1).toNat w = true then sgN (m + 1) (x * 2 + 1).toNat else 0)) (p2 (m : Int)) = sm (fun x => (if w % 2 = 1 then 0 else 1) * (if suN m x.toNat (w / 2) = true then sgN m x.toNat else 0)) (p2 (m : Int)) := sm_congr _ _ (fun x q1 q2 => by
      have x1 : (x * 2).toNat % 2 = 0 := by omega
      have x2 : (x * 2).toNat / 2 = x.toNat := by omega
      have x3 : (x * 2 + 1).toNat % 2 = 1 := by omega
      have x4 : (x * 2 + 1).toNat / 2 = x.toNat := by omega
      rw [suN_s, suN_s, sgN_s, sgN_s, x1, x2, x3, x4]
      rcases Nat.mod_two_eq_zero_or_one w with c | c
      · rw [c]
        simp
      · rw [c]
        simp
        split <;> omega)
    rw [e, sm_mul _ _ (by omega), ih]
    rw [suN_s]
    rcases Nat.mod_two_eq_zero_or_one w with c | c
    · rw [c]
      simp
    · rw [c]
      simp
theorem sg_all : ∀ x, x < 512 → sgN 9 x = if ((List.range 9).map fun k => (Nat.testBit x k).toNat).sum % 2 = 0 then 1 else -1 := by decide +kernel
theorem bc_nat {x : Int} : bc x = (((List.range 9).map fun k => (Nat.testBit x.toNat k).toNat).sum : Nat) := by
  have e : ∀ k : Nat, b2i (tb x (k : Int)) = ((Nat.testBit x.toNat k).toNat : Int) := fun k => by
    have : tb x (k : Int) = Nat.testBit x.toNat k := rfl
    rw [this]
    cases Nat.testBit x.toNat k <;> rfl
  unfold bc
  rw [show (9 : Int) = 0 + 1 + 1 + 1 + 1 + 1 + 1 + 1 + 1 + 1 from rfl]
  rw [sm_s _ (by omega), sm_s _ (by omega), sm_s _ (by omega), sm_s _ (by omega), sm_s _ (by omega), sm_s _ (by omega), sm_s _ (by omega), sm_s _ (by omega), sm_s _ (by omega), sm_0]
  have h0 : b2i (tb x 0) = ((Nat.testBit x.toNat 0).toNat : Int) := e 0
  have h1 : b2i (tb x 1) = ((Nat.testBit x.toNat 1).toNat : Int) := e 1
  have h2 : b2i (tb x 2) = ((Nat.testBit x.toNat 2).toNat : Int) := e 2
  have h3 : b2i (tb x 3) = ((Nat.testBit x.toNat 3).toNat : Int) := e 3
  have h4 : b2i (tb x 4) = ((Nat.testBit x.toNat 4).toNat : Int) := e 4
  have h5 : b2i (tb x 5) = ((Nat.testBit x.toNat 5).toNat : Int) := e 5
  have h6 : b2i (tb x 6) = ((Nat.testBit x.toNat 6).toNat : Int) := e 6
  have h7 : b2i (tb x 7) = ((Nat.testBit x.toNat 7).toNat : Int) := e 7
  have h8 : b2i (tb x 8) = ((Nat.testBit x.toNat 8).toNat : Int) := e 8
  simp only [List.range, List.range.loop, List.map, List.sum_cons, List.sum_nil, Int.reduceAdd] at *
  omega
/-- the sign of a set -/
def sgQ (x : Int) : Int := if bc x % 2 = 0 then 1 else -1
theorem sg_9 {x : Int} (hx : 0 ≤ x ∧ x < 512) : sgN 9 x.toNat = sgQ x := by
  rw [sg_all x.toNat (by omega)]
  unfold sgQ
  rw [bc_nat]
  generalize ((List.range 9).map fun k => (Nat.testBit x.toNat k).toNat).sum = n
  split <;> split <;> omega
/-- in a set; apart from a set -/
def suQ (x w : Int) : Bool := al (fun j => !tb x j || tb w j) 9
def apQ (x w : Int) : Bool := al (fun j => !(tb x j && tb w j)) 9
theorem su_9 {x w : Int} : suQ x w = suN 9 x.toNat w.toNat := by
  rw [Bool.eq_iff_iff, suN_t]
  unfold suQ
  rw [al_iff _ (by omega)]
  constructor
  · intro h j hj hx
    have := h (j : Int) (by omega) (by omega)
    have e1 : tb x (j : Int) = Nat.testBit x.toNat j := rfl
    have e2 : tb w (j : Int) = Nat.testBit w.toNat j := rfl
    rw [e1, e2, hx] at this
    simpa using this
  · intro h j q1 q2
    have e1 : tb x j = Nat.testBit x.toNat j.toNat := rfl
    have e2 : tb w j = Nat.testBit w.toNat j.toNat := rfl
    rw [e1, e2]
    cases hx : Nat.testBit x.toNat j.toNat with
    | false => rfl
    | true => rw [h j.toNat (by omega) hx]; rfl
theorem IE_9 {w : Int} : sm (fun x => if suQ x w = true then sgQ x else 0) 512 = if suQ w 0 = true then 1 else 0 := by
  have e := IE_m 9 w.toNat
  rw [show p2 ((9 : Nat) : Int) = 512 from by decide] at e
  rw [show sm (fun x => if suQ x w = true then sgQ x else 0) 512 = sm (fun x => if suN 9 x.toNat w.toNat = true then sgN 9 x.toNat else 0) 512 from sm_congr _ _ (fun x q1 q2 => by rw [su_9, sg_9 ⟨q1, q2⟩]), e, su_9]
  rfl
/-- those that are met in a set, and in none of the others -/
theorem IE_z {z o r : Int} (ho : 0 ≤ o) (hz : 0 ≤ z) (hr : 0 ≤ r) : sm (fun x => if suQ x r = true then sgQ x * (if apQ z (so o x) = true then 1 else 0) else 0) 512 = if (apQ z o && suQ r z) = true then 1 else 0 := by
  cases ha : apQ z o with
  | false =>
    rw [Bool.false_and, if_neg (by decide)]
    refine sm_z _ (by omega) (fun x q1 q2 => ?_)
    have : apQ z (so o x) = false := by
      apply Bool.eq_false_iff.mpr
      intro q
      have h := (al_iff _ (by omega)).mp q
      have : apQ z o = true := (al_iff _ (by omega)).mpr (fun j y1 y2 => by
        have := h j y1 y2
        rw [tb_so _ _ _ ho q1] at this
        cases h1 : tb z j <;> cases h2 : tb o j <;> simp_all)
      rw [ha] at this
      cases this
    rw [this, if_neg (show ¬ (false = true) by decide), Int.mul_zero, ite_self]
  | true =>
    rw [Bool.true_and]
    have hb := bs_b (fun j => tb r j && !tb z j) (n := 9) (by omega)
    obtain ⟨w, ew⟩ : ∃ w, w = bs (fun j => tb r j && !tb z j) 9 := ⟨_, rfl⟩
    have tw : ∀ j, 0 ≤ j → j < 9 → tb w j = (tb r j && !tb z j) := fun j y1 y2 => by
      rw [ew, bs_tb _ (by omega) y1, decide_eq_true y2, Bool.true_and]
    have hza := (al_iff _ (by omega)).mp ha
    have e1 : sm (fun x => if suQ x r = true then sgQ x * (if apQ z (so o x) = true then 1 else 0) else 0) 512 = sm (fun x => if suQ x w = true then sgQ x else 0) 512 := sm_congr _ _ (fun x q1 q2 => by
      have e : suQ x w = (suQ x r && apQ z (so o x)) := by
        rw [Bool.eq_iff_iff, Bool.and_eq_true]
        unfold suQ apQ
        rw [al_iff _ (by omega), al_iff _ (by omega), al_iff _ (by omega)]
        constructor
        · intro h
          refine ⟨fun j y1 y2 => ?_, fun j y1 y2 => ?_⟩
          · have a := h j y1 y2
            rw [tw j y1 y2] at a
            cases h1 : tb x j <;> cases h2 : tb r j <;> simp_all
          · have a := h j y1 y2
            have b := hza j y1 y2
            rw [tw j y1 y2] at a
            rw [tb_so _ _ _ ho q1]
            cases h1 : tb x j <;> cases h2 : tb z j <;> cases h3 : tb o j <;> simp_all
        · rintro ⟨h, k⟩ j y1 y2
          have a := h j y1 y2
          have b := k j y1 y2
          rw [tb_so _ _ _ ho q1] at b
          rw [tw j y1 y2]
          cases h1 : tb x j <;> cases h2 : tb z j <;> cases h3 : tb r j <;> simp_all
      rw [e]
      cases suQ x r <;> cases apQ z (so o x) <;> simp)
    rw [e1, IE_9]
    have e2 : suQ w 0 = suQ r z := by
      rw [Bool.eq_iff_iff]
      unfold suQ
      rw [al_iff _ (by omega), al_iff _ (by omega)]
      constructor
      · intro h j y1 y2
        have a := h j y1 y2
        rw [tw j y1 y2, tb_0] at a
        cases h1 : tb r j <;> cases h2 : tb z j <;> simp_all
      · intro h j y1 y2
        have a := h j y1 y2
        rw [tw j y1 y2, tb_0]
        cases h1 : tb r j <;> cases h2 : tb z j <;> simp_all
    rw [e2]
