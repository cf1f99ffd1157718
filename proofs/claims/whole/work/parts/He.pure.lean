/-! A TRIP TO ALL HOUSES -/
def mnI (a b : Int) : Int := if a < b then a else b
/-- the house b comes behind all of s -/
def tpM (D : Int → Int → Int) (A : Int → Int) (s b v n : Int) : Int := fo (fun h v => if A (s * 8 + h) < 100000000 then mnI v (A (s * 8 + h) + D h b) else v) v n
def tpT (S : Nat → Int → Int) (s i : Int) : Bool := decide (0 ≤ i % 8 ∧ i % 8 < S 0 0 ∧ tb s (i % 8) = false ∧ i / 8 = so s (p2 (i % 8)))
def tpS (S : Nat → Int → Int) (D : Int → Int → Int) (s : Int) (A : Int → Int) : Int → Int := fun i => if tpT S s i = true then tpM D A s (i % 8) (A i) (S 0 0) else A i
def tp0 (fr : Int) : Int → Int := fun i => if i = p2 fr * 8 + fr then 0 else 100000000
/-- behind the sets 1 .. i -/
def tpA (S : Nat → Int → Int) (D : Int → Int → Int) (fr i : Int) : Int → Int := fo (fun i A => tpS S D (i + 1) A) (tp0 fr) i
def tpL (A : Int → Int) (s n : Int) : Int := fo (fun h v => mnI v (A (s * 8 + h))) 100000000 n
/-- the same, where what is far is 9999 or more -/
def trM (w : Int → Int → Int) (t : Int → Int) (s b v n : Int) : Int := fo (fun a v => if tb s a = true then mnI v (t (s * 8 + a) + w a b) else v) v n
def tRel (t A : Int → Int) (i s : Int) : Prop := (A i = 100000000 ∧ 9999 ≤ t i ∧ t i ≤ 200000) ∨ (A i = t i ∧ 0 ≤ t i ∧ t i ≤ 63 * bc s)
theorem bc_add {s b : Int} (hs : 0 ≤ s) (hb : 0 ≤ b ∧ b < 9) (h : tb s b = false) : bc (so s (p2 b)) = bc s + 1 := by
  unfold bc
  have pb := p2_0 b
  rw [sm_up (fun k => b2i (tb s k)) (fun k => b2i (tb (so s (p2 b)) k)) (n := 9) (u := b) hb (fun k g1 g2 g3 => by
    rw [tb_so _ _ _ hs (by omega), tb_p2 hb.1 g1, decide_eq_false (fun q => g3 q.symm), Bool.or_false])]
  rw [tb_so _ _ _ hs (by omega), tb_p2 hb.1 hb.1, h, decide_eq_true rfl]
  rfl
theorem tb_lt {s k n : Int} (hs : 0 ≤ s ∧ s < p2 n) (hn : 0 ≤ n) (hk : n ≤ k) : tb s k = false := by
  unfold tb p2 at *
  apply Nat.testBit_lt_two_pow
  have : 2 ^ n.toNat ≤ 2 ^ k.toNat := Nat.pow_le_pow_right (by decide) (by omega)
  omega
/-- both walk alike -/
theorem trM_rel {S : Nat → Int → Int} (hV : SV S) {t A : Int → Int} {s b : Int} (hs : 0 ≤ s ∧ s < p2 (S 0 0)) (hb : 0 ≤ b ∧ b < S 0 0) (hr : ∀ h, 0 ≤ h → h < S 0 0 → tRel t A (s * 8 + h) s ∧ (A (s * 8 + h) < 100000000 → tb s h = true)) {v u : Int} (h0 : (u = 100000000 ∧ 9999 ≤ v ∧ v ≤ 200000) ∨ (u = v ∧ 0 ≤ v ∧ v ≤ 63 * (bc s + 1))) : (tpM (fwQ S 100000000 (S 0 0)) A s b u (S 0 0) = 100000000 ∧ 9999 ≤ trM (fwQ S 9999 (S 0 0)) t s b v 8 ∧ trM (fwQ S 9999 (S 0 0)) t s b v 8 ≤ 200000) ∨ (tpM (fwQ S 100000000 (S 0 0)) A s b u (S 0 0) = trM (fwQ S 9999 (S 0 0)) t s b v 8 ∧ 0 ≤ trM (fwQ S 9999 (S 0 0)) t s b v 8 ∧ trM (fwQ S 9999 (S 0 0)) t s b v 8 ≤ 63 * (bc s + 1)) := by
  have v0 := hV.1
  have bb := bc_b s
  have e8 : trM (fwQ S 9999 (S 0 0)) t s b v 8 = trM (fwQ S 9999 (S 0 0)) t s b v (S 0 0) := by
    unfold trM
    exact fo_tail _ _ (by omega) (fun a x g1 g2 => by rw [tb_lt hs (by omega) g1]; simp)
  rw [e8]
  have key : ∀ j : Nat, (j : Int) ≤ S 0 0 → (tpM (fwQ S 100000000 (S 0 0)) A s b u j = 100000000 ∧ 9999 ≤ trM (fwQ S 9999 (S 0 0)) t s b v j ∧ trM (fwQ S 9999 (S 0 0)) t s b v j ≤ 200000) ∨ (tpM (fwQ S 100000000 (S 0 0)) A s b u j = trM (fwQ S 9999 (S 0 0)) t s b v j ∧ 0 ≤ trM (fwQ S 9999 (S 0 0)) t s b v j ∧ trM (fwQ S 9999 (S 0 0)) t s b v j ≤ 63 * (bc s + 1)) := by
    intro j
    induction j with
    | zero => intro _; exact h0
    | succ j ih =>
      intro hj
      have e : ((j + 1 : Nat) : Int) = (j : Int) + 1 := by omega
      have i1 := ih (by omega)
      have es1 : tpM (fwQ S 100000000 (S 0 0)) A s b u ((j : Int) + 1) = if A (s * 8 + j) < 100000000 then mnI (tpM (fwQ S 100000000 (S 0 0)) A s b u j) (A (s * 8 + j) + fwQ S 100000000 (S 0 0) j b) else tpM (fwQ S 100000000 (S 0 0)) A s b u j := fo_s _ _ (by omega)
      have es2 : trM (fwQ S 9999 (S 0 0)) t s b v ((j : Int) + 1) = if tb s j = true then mnI (trM (fwQ S 9999 (S 0 0)) t s b v j) (t (s * 8 + j) + fwQ S 9999 (S 0 0) j b) else trM (fwQ S 9999 (S 0 0)) t s b v j := fo_s _ _ (by omega)
      rw [e, es1, es2]
      obtain ⟨r1, r2⟩ := hr j (by omega) (by omega)
      have w := fw_rel hV (n := S 0 0) (h := j) (k := b) (by omega) (by omega) (by omega)
      have wn := (fw_b hV (inf := 9999) (by omega) (n := S 0 0) (h := j) (k := b) (by omega) (by omega) (by omega)).1
      have w63 := fw_63 hV (inf := 100000000) (by omega) (n := S 0 0) (a := j) (b := b) (by omega) (by omega) hb
      have pl := p2_le (k := S 0 0) (m := 8) (by omega)
      have p8 : p2 8 = 256 := by decide
      unfold tRel at r1
      unfold mnI
      generalize tpM (fwQ S 100000000 (S 0 0)) A s b u j = X at *
      generalize trM (fwQ S 9999 (S 0 0)) t s b v j = Y at *
      generalize A (s * 8 + j) = a at *
      generalize t (s * 8 + j) = tt at *
      generalize fwQ S 100000000 (S 0 0) j b = D at *
      generalize fwQ S 9999 (S 0 0) j b = W at *
      cases htb : tb s j
      · have : ¬ a < 100000000 := fun q => by rw [r2 q] at htb; cases htb
        rw [if_neg this]
        simp only [Bool.false_eq_true, if_false]
        exact i1
      · simp only [if_true]
        by_cases c : a < 100000000
        · rw [if_pos c]
          split <;> split <;> omega
        · rw [if_neg c]
          split <;> omega
  have := key (S 0 0).toNat (by omega)
  rwa [show (((S 0 0).toNat : Nat) : Int) = S 0 0 by omega] at this
/-- all are related behind each set -/
def tAll (S : Nat → Int → Int) (t A : Int → Int) : Prop := ∀ s h, 0 ≤ s → s < p2 (S 0 0) → 0 ≤ h → h < S 0 0 → tRel t A (s * 8 + h) s ∧ (A (s * 8 + h) < 100000000 → tb s h = true)
theorem tAll_s {S : Nat → Int → Int} (hV : SV S) {t t' A : Int → Int} {s : Int} (hs : 0 ≤ s ∧ s < p2 (S 0 0)) (hr : tAll S t A) (ht : ∀ i, tpT S s i = true → t' i = trM (fwQ S 9999 (S 0 0)) t s (i % 8) (t i) 8) (hn : ∀ i, tpT S s i = false → t' i = t i) : tAll S t' (tpS S (fwQ S 100000000 (S 0 0)) s A) := by
  have v := hV.1
  intro s' h g1 g2 g3 g4
  have i8 : (s' * 8 + h) % 8 = h := by omega
  have id8 : (s' * 8 + h) / 8 = s' := by omega
  have r0 := hr s' h g1 g2 g3 g4
  unfold tpS
  cases hc : tpT S s (s' * 8 + h)
  · unfold tRel at *
    rw [hn _ hc]
    simp only [hc, Bool.false_eq_true, if_false]
    exact r0
  · have hc' := hc
    unfold tpT at hc'
    rw [decide_eq_true_eq, i8, id8] at hc'
    obtain ⟨_, _, k3, k4⟩ := hc'
    have ba := bc_add (s := s) (b := h) hs.1 (by omega) k3
    rw [← k4] at ba
    have hrs : ∀ h, 0 ≤ h → h < S 0 0 → tRel t A (s * 8 + h) s ∧ (A (s * 8 + h) < 100000000 → tb s h = true) := fun h q1 q2 => hr s h hs.1 hs.2 q1 q2
    have h0 : (A (s' * 8 + h) = 100000000 ∧ 9999 ≤ t (s' * 8 + h) ∧ t (s' * 8 + h) ≤ 200000) ∨ (A (s' * 8 + h) = t (s' * 8 + h) ∧ 0 ≤ t (s' * 8 + h) ∧ t (s' * 8 + h) ≤ 63 * (bc s + 1)) := by
      have := r0.1
      unfold tRel at this
      rw [ba] at this
      exact this
    have hh := trM_rel hV hs (b := h) ⟨g3, g4⟩ hrs h0
    refine ⟨?_, fun _ => ?_⟩
    · unfold tRel
      rw [ht _ hc, i8, ba]
      simp only [hc, if_true]
      rw [i8]
      exact hh
    · rw [k4, tb_so _ _ _ hs.1 (by have := p2_0 h; omega), tb_p2 g3 g3, decide_eq_true rfl, Bool.or_true]
theorem tp_fin {S : Nat → Int → Int} (hV : SV S) {t A : Int → Int} (hr : tAll S t A) : (if tpL A (p2 (S 0 0) - 1) (S 0 0) < 100000000 then tpL A (p2 (S 0 0) - 1) (S 0 0) else -1) = (if fo (fun h v => mnI v (t ((p2 (S 0 0) - 1) * 8 + h))) 99999 (S 0 0) < 9999 then fo (fun h v => mnI v (t ((p2 (S 0 0) - 1) * 8 + h))) 99999 (S 0 0) else -1) := by
  have v := hV.1
  have pp := p2_0 (S 0 0)
  have bb := bc_b (p2 (S 0 0) - 1)
  have key : ∀ j : Nat, (j : Int) ≤ S 0 0 → (tpL A (p2 (S 0 0) - 1) j = 100000000 ∧ 9999 ≤ fo (fun h v => mnI v (t ((p2 (S 0 0) - 1) * 8 + h))) 99999 j) ∨ (tpL A (p2 (S 0 0) - 1) j = fo (fun h v => mnI v (t ((p2 (S 0 0) - 1) * 8 + h))) 99999 j ∧ fo (fun h v => mnI v (t ((p2 (S 0 0) - 1) * 8 + h))) 99999 j ≤ 600) := by
    intro j
    induction j with
    | zero => intro _; exact Or.inl ⟨rfl, by show (9999 : Int) ≤ 99999; omega⟩
    | succ j ih =>
      intro hj
      have e : ((j + 1 : Nat) : Int) = (j : Int) + 1 := by omega
      have i1 := ih (by omega)
      have es1 : tpL A (p2 (S 0 0) - 1) ((j : Int) + 1) = mnI (tpL A (p2 (S 0 0) - 1) j) (A ((p2 (S 0 0) - 1) * 8 + j)) := fo_s _ _ (by omega)
      rw [e, es1, fo_s _ _ (by omega)]
      have r1 := (hr (p2 (S 0 0) - 1) j (by omega) (by omega) (by omega) (by omega)).1
      unfold tRel at r1
      unfold mnI at *
      split <;> split <;> omega
  have := key (S 0 0).toNat (by omega)
  rw [show (((S 0 0).toNat : Nat) : Int) = S 0 0 by omega] at this
  split <;> split <;> omega
