/-! LAWS of the class; how many bits -/
/-- what a law's numbers can be -/
def LV (L : Nat → Int → Int) : Prop := (0 ≤ L 0 0 ∧ L 0 0 ≤ 60 ∧ 1 ≤ L 0 1 ∧ L 0 1 ≤ 999 ∧ 0 ≤ L 0 2 ∧ L 0 2 ≤ 99 ∧ 0 ≤ L 0 3 ∧ L 0 3 < 256 ∧ 0 ≤ L 0 4 ∧ L 0 4 ≤ 1) ∧ ∀ w, 0 ≤ w → w < 9 → 0 ≤ L 1 w ∧ L 1 w ≤ 9
/-- the charge of a reading -/
def chS (L : Nat → Int → Int) (r u h : Int) (p : Bool) : Int := if tb (L 0 3) h = true then 0 else (if 0 < r - L 0 0 then r - L 0 0 else 0) * L 1 (u / 4) + (if p = true then L 0 2 else 0)
theorem chS_b {L : Nat → Int → Int} (hV : LV L) {r u h : Int} {p : Bool} (hr : -1 ≤ r ∧ r ≤ 100) (hu : 0 ≤ u ∧ u < 36) : 0 ≤ chS L r u h p ∧ chS L r u h p ≤ 1000 := by
  have h1 := hV.1
  have h2 := hV.2 (u / 4) (by omega) (by omega)
  have h3 := mul_b (a := L 1 (u / 4)) (b := if 0 < r - L 0 0 then r - L 0 0 else 0) (A := 9) (B := 100) h2 (by split <;> omega)
  have h4 : 0 ≤ L 1 (u / 4) * (if 0 < r - L 0 0 then r - L 0 0 else 0) := Int.mul_nonneg h2.1 (by split <;> omega)
  unfold chS
  rw [Int.mul_comm]
  generalize L 1 (u / 4) * (if 0 < r - L 0 0 then r - L 0 0 else 0) = z at *
  grind
/-- how many bits of nine -/
def bc (s : Int) : Int := sm (fun k => b2i (tb s k)) 9
theorem bc_all : ∀ n, n < 512 → (((((((((nI n) - (((Int32.toUInt32 (nI n) >>> (Int32.toUInt32 (1 : Int32) &&& Int32.toUInt32 31)).toInt32) &&& (1431655765 : Int32))) &&& (858993459 : Int32)) + (((Int32.toUInt32 ((nI n) - (((Int32.toUInt32 (nI n) >>> (Int32.toUInt32 (1 : Int32) &&& Int32.toUInt32 31)).toInt32) &&& (1431655765 : Int32))) >>> (Int32.toUInt32 (2 : Int32) &&& Int32.toUInt32 31)).toInt32) &&& (858993459 : Int32))) + ((Int32.toUInt32 ((((nI n) - (((Int32.toUInt32 (nI n) >>> (Int32.toUInt32 (1 : Int32) &&& Int32.toUInt32 31)).toInt32) &&& (1431655765 : Int32))) &&& (858993459 : Int32)) + (((Int32.toUInt32 ((nI n) - (((Int32.toUInt32 (nI n) >>> (Int32.toUInt32 (1 : Int32) &&& Int32.toUInt32 31)).toInt32) &&& (1431655765 : Int32))) >>> (Int32.toUInt32 (2 : Int32) &&& Int32.toUInt32 31)).toInt32) &&& (858993459 : Int32))) >>> (Int32.toUInt32 (4 : Int32) &&& Int32.toUInt32 31)).toInt32)) &&& (252645135 : Int32)) + ((Int32.toUInt32 ((((((nI n) - (((Int32.toUInt32 (nI n) >>> (Int32.toUInt32 (1 : Int32) &&& Int32.toUInt32 31)).toInt32) &&& (1431655765 : Int32))) &&& (858993459 : Int32)) + (((Int32.toUInt32 ((nI n) - (((Int32.toUInt32 (nI n) >>> (Int32.toUInt32 (1 : Int32) &&& Int32.toUInt32 31)).toInt32) &&& (1431655765 : Int32))) >>> (Int32.toUInt32 (2 : Int32) &&& Int32.toUInt32 31)).toInt32) &&& (858993459 : Int32))) + ((Int32.toUInt32 ((((nI n) - (((Int32.toUInt32 (nI n) >>> (Int32.toUInt32 (1 : Int32) &&& Int32.toUInt32 31)).toInt32) &&& (1431655765 : Int32))) &&& (858993459 : Int32)) + (((Int32.toUInt32 ((nI n) - (((Int32.toUInt32 (nI n) >>> (Int32.toUInt32 (1 : Int32) &&& Int32.toUInt32 31)).toInt32) &&& (1431655765 : Int32))) >>> (Int32.toUInt32 (2 : Int32) &&& Int32.toUInt32 31)).toInt32) &&& (858993459 : Int32))) >>> (Int32.toUInt32 (4 : Int32) &&& Int32.toUInt32 31)).toInt32)) &&& (252645135 : Int32)) >>> (Int32.toUInt32 (8 : Int32) &&& Int32.toUInt32 31)).toInt32)) + ((Int32.toUInt32 (((((((nI n) - (((Int32.toUInt32 (nI n) >>> (Int32.toUInt32 (1 : Int32) &&& Int32.toUInt32 31)).toInt32) &&& (1431655765 : Int32))) &&& (858993459 : Int32)) + (((Int32.toUInt32 ((nI n) - (((Int32.toUInt32 (nI n) >>> (Int32.toUInt32 (1 : Int32) &&& Int32.toUInt32 31)).toInt32) &&& (1431655765 : Int32))) >>> (Int32.toUInt32 (2 : Int32) &&& Int32.toUInt32 31)).toInt32) &&& (858993459 : Int32))) + ((Int32.toUInt32 ((((nI n) - (((Int32.toUInt32 (nI n) >>> (Int32.toUInt32 (1 : Int32) &&& Int32.toUInt32 31)).toInt32) &&& (1431655765 : Int32))) &&& (858993459 : Int32)) + (((Int32.toUInt32 ((nI n) - (((Int32.toUInt32 (nI n) >>> (Int32.toUInt32 (1 : Int32) &&& Int32.toUInt32 31)).toInt32) &&& (1431655765 : Int32))) >>> (Int32.toUInt32 (2 : Int32) &&& Int32.toUInt32 31)).toInt32) &&& (858993459 : Int32))) >>> (Int32.toUInt32 (4 : Int32) &&& Int32.toUInt32 31)).toInt32)) &&& (252645135 : Int32)) + ((Int32.toUInt32 ((((((nI n) - (((Int32.toUInt32 (nI n) >>> (Int32.toUInt32 (1 : Int32) &&& Int32.toUInt32 31)).toInt32) &&& (1431655765 : Int32))) &&& (858993459 : Int32)) + (((Int32.toUInt32 ((nI n) - (((Int32.toUInt32 (nI n) >>> (Int32.toUInt32 (1 : Int32) &&& Int32.toUInt32 31)).toInt32) &&& (1431655765 : Int32))) >>> (Int32.toUInt32 (2 : Int32) &&& Int32.toUInt32 31)).toInt32) &&& (858993459 : Int32))) + ((Int32.toUInt32 ((((nI n) - (((Int32.toUInt32 (nI n) >>> (Int32.toUInt32 (1 : Int32) &&& Int32.toUInt32 31)).toInt32) &&& (1431655765 : Int32))) &&& (858993459 : Int32)) + (((Int32.toUInt32 ((nI n) - (((Int32.toUInt32 (nI n) >>> (Int32.toUInt32 (1 : Int32) &&& Int32.toUInt32 31)).toInt32) &&& (1431655765 : Int32))) >>> (Int32.toUInt32 (2 : Int32) &&& Int32.toUInt32 31)).toInt32) &&& (858993459 : Int32))) >>> (Int32.toUInt32 (4 : Int32) &&& Int32.toUInt32 31)).toInt32)) &&& (252645135 : Int32)) >>> (Int32.toUInt32 (8 : Int32) &&& Int32.toUInt32 31)).toInt32)) >>> (Int32.toUInt32 (16 : Int32) &&& Int32.toUInt32 31)).toInt32)) &&& (63 : Int32)) = nI ((List.range 9).map fun k => (Nat.testBit n k).toNat).sum := by decide +kernel
section LAW
variable {E : (Nat → Value) × (Nat → Nat)} {lo d b : Nat} {μ : rM} {I S L : Nat → Int → Int} {k u x y h w r : Int} {p : Bool}
theorem ch_sp (hd : 1 ≤ d) (hL : AtL μ I b L) (hV : LV L) (hr : -1 ≤ r ∧ r ≤ 100) (hu : 0 ≤ u ∧ u < 36) (hh : 0 ≤ h ∧ h < 8) : cl E lo d 9 [.ref b, .int (J (r)), .int (J (u)), .int (J (h)), .int (J (b2i p))] (mj μ I) = some (some (.int (J (chS L r u h p))), mj μ I) := by
  obtain ⟨d, rfl⟩ : ∃ e, d = e + 1 := ⟨d - 1, by omega⟩
  have h1 := hV.1
  have h2 := hV.2 (u / 4) (by omega) (by omega)
  simp (disch := omega) only [e9, b9_0, b9_11, b9_13, b9_39, b9_49, b9_51, gO_L hL.1, gR_L5 hL.1, al_L1 hL.1, rd_L1 hL.1, vL_0 hL, vL_1 hL, Jl0, Jl1, Jl2, Jl3, Jl4, Jl5, Jl6, Jl7, Jl8, Jl9, Jl10, Jl11, Jl12, Jl13, Jl14, Jl15, Jl16, Jl17, Jl18, Jl19, Jl20, Jl22, Jl24, Jl28, Jl30, Jl31, Jl32, Jl35, Jl36, Jl37, Jl38, Jl39, Jl40, Jl48, Jl57, Jl59, Jl60, Jl61, Jl63, Jl64, Jl68, Jl69, Jl96, Jl97, Jl98, Jl99, Jl100, Jl122, Jl149, Jl150, Jl165, Jl255, Jl511, Jl512, Jl600, Jl610, Jl940, Jl968, Jl999, Jl1134, Jl1152, Jl2048, Jl4608, Jl9999, Jl99999, Jl100000, Jl147456, Jl12345, Jl1103515245, Jl100000000, Jlm1, Jlm2, J_add, J_sub, J_mul, J_lt, J_le, J_eq, J_ite, J_cl, ri_j, wi_j, b2i_z, b2i_o, b2i_zo, Int.cast_ofNat_Int, Int.natCast_zero, Int.natCast_one, if_true, if_false, ite_self, Int.le_refl, J_bit, J_or, J_neg, J_oN, Int.reduceEq, Int.reduceLT, Int.reduceLE, Int.reduceNeg, Int.reduceAdd, Int.reduceSub, Int.reduceMul, Int.reduceToNat, J_shl, J_shr, V_ite, true_or, or_true, nz_j, J_div, J_rem, Option.bind_some, Option.toList_some, Option.toList_none, List.cons_append, List.nil_append]
  refine V_ok _ ?_
  unfold chS
  grind
theorem bc_sp (hd : 1 ≤ d) (hx : 0 ≤ x ∧ x < 512) : cl E lo d 286 [.int (J (x))] μ = some (some (.int (J (bc x))), μ) := by
  obtain ⟨d, rfl⟩ : ∃ e, d = e + 1 := ⟨d - 1, by omega⟩
  rw [e286, b286_0, J_Nn hx.1, bc_all x.toNat (by omega), J_nI]
  refine V_ok _ ?_
  have e : bc x = b2i (tb x 0) + b2i (tb x 1) + b2i (tb x 2) + b2i (tb x 3) + b2i (tb x 4) + b2i (tb x 5) + b2i (tb x 6) + b2i (tb x 7) + b2i (tb x 8) := by
    show 0 + _ + _ + _ + _ + _ + _ + _ + _ + _ = _
    rw [Int.zero_add]
    rfl
  have f : ∀ k : Nat, b2i (tb x k) = (((x.toNat).testBit k).toNat : Int) := by
    intro k
    unfold tb b2i
    rw [Int.toNat_natCast]
    cases x.toNat.testBit k <;> rfl
  rw [e, show (0 : Int) = ((0 : Nat) : Int) from rfl, show (1 : Int) = ((1 : Nat) : Int) from rfl, show (2 : Int) = ((2 : Nat) : Int) from rfl, show (3 : Int) = ((3 : Nat) : Int) from rfl, show (4 : Int) = ((4 : Nat) : Int) from rfl, show (5 : Int) = ((5 : Nat) : Int) from rfl, show (6 : Int) = ((6 : Nat) : Int) from rfl, show (7 : Int) = ((7 : Nat) : Int) from rfl, show (8 : Int) = ((8 : Nat) : Int) from rfl, f, f, f, f, f, f, f, f, f]
  simp only [List.range, List.range.loop, List.map, List.sum_cons, List.sum_nil]
  omega
theorem bc_b (s : Int) : 0 ≤ bc s ∧ bc s ≤ 9 := by
  have := sm_b (fun k => b2i (tb s k)) (n := 9) (A := 0) (B := 1) (by omega) (fun i _ _ => b2i_r _)
  unfold bc
  omega
end LAW
