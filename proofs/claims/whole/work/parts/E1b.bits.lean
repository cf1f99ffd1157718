/-! BITS -/
/-- bit k of s -/
def tb (s k : Int) : Bool := s.toNat.testBit k.toNat
def p2 (k : Int) : Int := ((2 ^ k.toNat : Nat) : Int)
def so (s t : Int) : Int := ((s.toNat ||| t.toNat : Nat) : Int)
theorem J_nI (n : Nat) : nI n = J (n : Int) := by
  unfold J nI
  exact (Int32.ofInt_eq_ofNat).symm
theorem J_Nn {a : Int} (h : 0 ≤ a) : J a = nI a.toNat := by
  rw [J_nI]
  congr 1
  omega
theorem sh31 : ∀ n, n < 32 → ((nI n &&& 31).toBitVec.smod 32).toNat = n := by decide +kernel
theorem sh2 : ∀ n, n < 31 → (nI 1 <<< (nI n &&& 31)) = nI (2 ^ n) := by decide +kernel
theorem p2_lt {k : Int} (h : k < 31) : 0 < p2 k ∧ p2 k < 2147483648 := by
  unfold p2
  have h1 : 2 ^ k.toNat ≤ 2 ^ 30 := Nat.pow_le_pow_right (by decide) (by omega)
  have h2 : 0 < 2 ^ k.toNat := Nat.pow_pos (by decide)
  omega
theorem J_shl {k : Int} (h : 0 ≤ k ∧ k < 31) : J 1 <<< (J k &&& J 31) = J (p2 k) := by
  have h1 := sh2 k.toNat (by omega)
  rw [J_Nn (a := 1) (by decide), J_Nn h.1, show J 31 = 31 from rfl]
  exact h1.trans (J_nI _)
theorem J_shr {s k : Int} (h : 0 ≤ s ∧ s < 2147483648 ∧ 0 ≤ k ∧ k < 31) : J s >>> (J k &&& J 31) = J (s / p2 k) := by
  rw [J_Nn h.1, J_Nn h.2.2.1, show J 31 = 31 from rfl, pk_shrN (k := k.toNat) (by omega) _ (sh31 _ (by omega)), J_nI]
  congr 1
  unfold p2
  rw [Int.natCast_ediv]
  congr 1
  omega
theorem J_or {s t : Int} (h : 0 ≤ s ∧ s < 2147483648 ∧ 0 ≤ t ∧ t < 2147483648) : J s ||| J t = J (so s t) := by
  unfold so
  rw [J_Nn h.1, J_Nn h.2.2.1, ← J_nI]
  apply Int32.toBitVec_inj.mp
  rw [Int32.toBitVec_or]
  show BitVec.ofNat 32 _ ||| BitVec.ofNat 32 _ = BitVec.ofNat 32 _
  apply BitVec.eq_of_toNat_eq
  rw [BitVec.toNat_or, BitVec.toNat_ofNat, BitVec.toNat_ofNat, BitVec.toNat_ofNat, Nat.mod_eq_of_lt (by omega), Nat.mod_eq_of_lt (by omega), Nat.mod_eq_of_lt]
  exact Nat.or_lt_two_pow (by omega) (by omega)
theorem J_and1 {s : Int} (h : 0 ≤ s ∧ s < 2147483648) : J s &&& J 1 = J (s % 2) := by
  rw [J_Nn h.1, J_Nn (a := 1) (by decide), J_Nn (a := s % 2) (by omega)]
  apply Int32.toBitVec_inj.mp
  rw [Int32.toBitVec_and]
  show BitVec.ofNat 32 _ &&& BitVec.ofNat 32 _ = BitVec.ofNat 32 _
  apply BitVec.eq_of_toNat_eq
  rw [BitVec.toNat_and, BitVec.toNat_ofNat, BitVec.toNat_ofNat, BitVec.toNat_ofNat, Nat.mod_eq_of_lt (by omega), Nat.mod_eq_of_lt (a := Int.toNat 1) (by decide), Nat.mod_eq_of_lt (by omega)]
  have := Nat.and_two_pow_sub_one_eq_mod s.toNat 1
  rw [show Int.toNat 1 = 2 ^ 1 - 1 from rfl, this]
  omega
theorem tb_eq (s k : Int) (h : 0 ≤ s) : s / p2 k % 2 = b2i (tb s k) := by
  unfold tb p2 b2i
  rw [Nat.testBit_eq_decide_div_mod_eq]
  have h1 : (s.toNat : Int) = s := by omega
  have h2 : ((s.toNat / 2 ^ k.toNat : Nat) : Int) = s / ((2 ^ k.toNat : Nat) : Int) := by
    rw [Int.natCast_ediv, h1]
  rw [← h2]
  by_cases hb : s.toNat / 2 ^ k.toNat % 2 = 1
  · simp only [hb, decide_true, if_true]; omega
  · simp only [hb, decide_false, Bool.false_eq_true, if_false]; omega
theorem J_bit {s k : Int} (h : 0 ≤ s ∧ s < 2147483648 ∧ 0 ≤ k ∧ k < 31) : J (s / p2 k) &&& J 1 = J (b2i (tb s k)) := by
  rw [J_and1, tb_eq s k h.1]
  have := p2_lt h.2.2.2
  have h1 := Int.ediv_nonneg (a := s) (b := p2 k) (by omega) (by omega)
  have h2 := Int.ediv_le_self (a := s) (p2 k) (by omega)
  omega
theorem so_lt {s t : Int} {n : Nat} (hs : 0 ≤ s ∧ s < 2 ^ n) (ht : 0 ≤ t ∧ t < 2 ^ n) : 0 ≤ so s t ∧ so s t < 2 ^ n := by
  unfold so
  have e : ((2 ^ n : Nat) : Int) = 2 ^ n := by rw [Int.natCast_pow]; rfl
  have := Nat.or_lt_two_pow (x := s.toNat) (y := t.toNat) (n := n) (by omega) (by omega)
  omega
theorem tb_so (s t k : Int) (hs : 0 ≤ s) (ht : 0 ≤ t) : tb (so s t) k = (tb s k || tb t k) := by
  unfold tb so
  rw [Int.toNat_natCast, Nat.testBit_or]
theorem tb_p2 {j k : Int} (hj : 0 ≤ j) (hk : 0 ≤ k) : tb (p2 j) k = decide (j = k) := by
  unfold tb p2
  rw [Int.toNat_natCast, Nat.testBit_two_pow]
  congr 1
  apply propext
  constructor <;> intro h <;> omega
theorem tb_0 (k : Int) : tb 0 k = false := by
  unfold tb
  exact Nat.zero_testBit _
theorem V_ite (c : Prop) [Decidable c] (a b : Int) (m : rM) : (if c then (some (some (Value.int (J a)), m) : Option rRs) else some (some (Value.int (J b)), m)) = some (some (Value.int (J (if c then a else b))), m) := by split <;> rfl
theorem V_ok {a b : Int} (m : rM) (h : a = b) : (some (some (Value.int (J a)), m) : Option rRs) = some (some (Value.int (J b)), m) := by rw [h]
theorem b2i_i (b : Bool) : (if b = false then 0 else 1) = b2i b := by cases b <;> rfl
theorem J_oN (n : Nat) : Int32.ofNat n = J (n : Int) := J_nI n
