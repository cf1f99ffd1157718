/-! THE REFERENCE, small methods -/
section REF1
variable {E : (Nat → Value) × (Nat → Nat)} {lo d H : Nat} {μ : rM} {M : Nat → Nat → Int32}
theorem s168 (v a b : Int32) : cl E lo (d + 1) 168 [.int v, .int a, .int b] μ = some (some (.int (if v < a ∨ b < v then 0 else 1)), μ) := by
  simp only [e168, b168_0, b168_5, b168_10, b168_14, b168_15]
  by_cases h1 : v < a <;> by_cases h2 : b < v <;> simp [h1, h2]
theorem s209 (a b : Int32) : cl E lo (d + 1) 209 [.int a, .int b] μ = some (some (.int (if a < b then a else b)), μ) := by
  simp only [e209, b209_0, b209_5, b209_9, b209_10]
  by_cases h1 : b ≤ a
  · simp [h1, Int32.not_lt.mpr h1]
  · simp [h1, Int32.not_le.mp h1]
theorem s203 (hM : MSh H μ) : cl E lo (d + 1) 203 [.ref H] (mm H μ M) = if aIn (M 0 12 + 2) 4608 = true then some (some (.int (M 1 (M 0 12 + 2).toNatClampNeg)), mm H μ M) else none := by
  simp only [e203, b203_0, gO_m, gP_m, ri_mm0, wi_mm0, gR_m0, gR_m1, gR_m11, gR_m13, gR_m14, gR_m15, gR_m16, gR_m17, gR_m22, gR_m32, gR_m33, gR_m34, gR_m35, gR_m36, gR_m37, gR_m38, gR_m41, gR_m42, gR_m43, gR_m45, gR_m46, gR_m47, gR_m50, gR_m51, gR_m52, rd_m1, rd_m3, rd_m4, rd_m5, rd_m6, rd_m7, rd_m8, rd_m9, rd_m10, rd_m11, rd_m12, rd_m13, rd_m14, rd_m15, rd_m16, rd_m17, rd_m18, rd_m19, rd_m20, rd_m21, rd_m22, rd_m23, rd_m24, rd_m25, wr_m1, wr_m3, wr_m4, wr_m5, wr_m6, wr_m7, wr_m8, wr_m9, wr_m10, wr_m11, wr_m12, wr_m13, wr_m14, wr_m15, wr_m16, wr_m17, wr_m18, wr_m19, wr_m20, wr_m21, wr_m22, wr_m23, wr_m24, wr_m25, ri_m1, ri_m2, ri_m3, ri_m4, ri_m5, ri_m6, ri_m7, ri_m8, ri_m9, ri_m10, ri_m11, ri_m12, ri_m13, ri_m14, ri_m15, ri_m16, ri_m17, ri_m18, ri_m19, ri_m20, ri_m21, ri_m22, ri_m23, ri_m24, ri_m25, wi_m1, wi_m2, wi_m3, wi_m4, wi_m5, wi_m6, wi_m7, wi_m8, wi_m9, wi_m10, wi_m11, wi_m12, wi_m13, wi_m14, wi_m15, wi_m16, wi_m17, wi_m18, wi_m19, wi_m20, wi_m21, wi_m22, wi_m23, wi_m24, wi_m25, hM]
theorem s202 (hM : MSh H μ) (k w : Int32) : cl E lo (d + 1) 202 [.ref H, .int k, .int w] (mm H μ M) = if aIn (M 0 12 + 68 + 9 * k + w) 4608 = true then some (some (.int (M 1 (M 0 12 + 68 + 9 * k + w).toNatClampNeg)), mm H μ M) else none := by
  simp only [e202, b202_0, gO_m, gP_m, ri_mm0, wi_mm0, gR_m0, gR_m1, gR_m11, gR_m13, gR_m14, gR_m15, gR_m16, gR_m17, gR_m22, gR_m32, gR_m33, gR_m34, gR_m35, gR_m36, gR_m37, gR_m38, gR_m41, gR_m42, gR_m43, gR_m45, gR_m46, gR_m47, gR_m50, gR_m51, gR_m52, rd_m1, rd_m3, rd_m4, rd_m5, rd_m6, rd_m7, rd_m8, rd_m9, rd_m10, rd_m11, rd_m12, rd_m13, rd_m14, rd_m15, rd_m16, rd_m17, rd_m18, rd_m19, rd_m20, rd_m21, rd_m22, rd_m23, rd_m24, rd_m25, wr_m1, wr_m3, wr_m4, wr_m5, wr_m6, wr_m7, wr_m8, wr_m9, wr_m10, wr_m11, wr_m12, wr_m13, wr_m14, wr_m15, wr_m16, wr_m17, wr_m18, wr_m19, wr_m20, wr_m21, wr_m22, wr_m23, wr_m24, wr_m25, ri_m1, ri_m2, ri_m3, ri_m4, ri_m5, ri_m6, ri_m7, ri_m8, ri_m9, ri_m10, ri_m11, ri_m12, ri_m13, ri_m14, ri_m15, ri_m16, ri_m17, ri_m18, ri_m19, ri_m20, ri_m21, ri_m22, ri_m23, ri_m24, ri_m25, wi_m1, wi_m2, wi_m3, wi_m4, wi_m5, wi_m6, wi_m7, wi_m8, wi_m9, wi_m10, wi_m11, wi_m12, wi_m13, wi_m14, wi_m15, wi_m16, wi_m17, wi_m18, wi_m19, wi_m20, wi_m21, wi_m22, wi_m23, wi_m24, wi_m25, hM]
theorem s208 (a k : Int32) : cl E lo (d + 1) 208 [.int a, .int k] μ = some (some (.int (if (a >>> (k &&& 31)) &&& 1 = 1 then 1 else 0)), μ) := by
  simp only [e208, b208_0, b208_9, b208_13, b208_14]
  by_cases h1 : (a >>> (k &&& 31)) &&& 1 = 1 <;> simp [h1]
theorem s204 (hM : MSh H μ) : cl E lo (d + 1) 204 [.ref H] (mm H μ M) = if aIn (M 0 12 + 0) 4608 = true then some (some (.int (M 1 (M 0 12 + 0).toNatClampNeg)), mm H μ M) else none := by
  simp only [e204, b204_0, gO_m, gP_m, ri_mm0, wi_mm0, gR_m0, gR_m1, gR_m11, gR_m13, gR_m14, gR_m15, gR_m16, gR_m17, gR_m22, gR_m32, gR_m33, gR_m34, gR_m35, gR_m36, gR_m37, gR_m38, gR_m41, gR_m42, gR_m43, gR_m45, gR_m46, gR_m47, gR_m50, gR_m51, gR_m52, rd_m1, rd_m3, rd_m4, rd_m5, rd_m6, rd_m7, rd_m8, rd_m9, rd_m10, rd_m11, rd_m12, rd_m13, rd_m14, rd_m15, rd_m16, rd_m17, rd_m18, rd_m19, rd_m20, rd_m21, rd_m22, rd_m23, rd_m24, rd_m25, wr_m1, wr_m3, wr_m4, wr_m5, wr_m6, wr_m7, wr_m8, wr_m9, wr_m10, wr_m11, wr_m12, wr_m13, wr_m14, wr_m15, wr_m16, wr_m17, wr_m18, wr_m19, wr_m20, wr_m21, wr_m22, wr_m23, wr_m24, wr_m25, ri_m1, ri_m2, ri_m3, ri_m4, ri_m5, ri_m6, ri_m7, ri_m8, ri_m9, ri_m10, ri_m11, ri_m12, ri_m13, ri_m14, ri_m15, ri_m16, ri_m17, ri_m18, ri_m19, ri_m20, ri_m21, ri_m22, ri_m23, ri_m24, ri_m25, wi_m1, wi_m2, wi_m3, wi_m4, wi_m5, wi_m6, wi_m7, wi_m8, wi_m9, wi_m10, wi_m11, wi_m12, wi_m13, wi_m14, wi_m15, wi_m16, wi_m17, wi_m18, wi_m19, wi_m20, wi_m21, wi_m22, wi_m23, wi_m24, wi_m25, hM]
theorem s207 (hM : MSh H μ) (a b : Int32) : cl E lo (d + 1) 207 [.ref H, .int a, .int b] (mm H μ M) = if aIn (M 0 12 + 4 + 8 * a + b) 4608 = true then some (some (.int (M 1 (M 0 12 + 4 + 8 * a + b).toNatClampNeg)), mm H μ M) else none := by
  simp only [e207, b207_0, gO_m, gP_m, ri_mm0, wi_mm0, gR_m0, gR_m1, gR_m11, gR_m13, gR_m14, gR_m15, gR_m16, gR_m17, gR_m22, gR_m32, gR_m33, gR_m34, gR_m35, gR_m36, gR_m37, gR_m38, gR_m41, gR_m42, gR_m43, gR_m45, gR_m46, gR_m47, gR_m50, gR_m51, gR_m52, rd_m1, rd_m3, rd_m4, rd_m5, rd_m6, rd_m7, rd_m8, rd_m9, rd_m10, rd_m11, rd_m12, rd_m13, rd_m14, rd_m15, rd_m16, rd_m17, rd_m18, rd_m19, rd_m20, rd_m21, rd_m22, rd_m23, rd_m24, rd_m25, wr_m1, wr_m3, wr_m4, wr_m5, wr_m6, wr_m7, wr_m8, wr_m9, wr_m10, wr_m11, wr_m12, wr_m13, wr_m14, wr_m15, wr_m16, wr_m17, wr_m18, wr_m19, wr_m20, wr_m21, wr_m22, wr_m23, wr_m24, wr_m25, ri_m1, ri_m2, ri_m3, ri_m4, ri_m5, ri_m6, ri_m7, ri_m8, ri_m9, ri_m10, ri_m11, ri_m12, ri_m13, ri_m14, ri_m15, ri_m16, ri_m17, ri_m18, ri_m19, ri_m20, ri_m21, ri_m22, ri_m23, ri_m24, ri_m25, wi_m1, wi_m2, wi_m3, wi_m4, wi_m5, wi_m6, wi_m7, wi_m8, wi_m9, wi_m10, wi_m11, wi_m12, wi_m13, wi_m14, wi_m15, wi_m16, wi_m17, wi_m18, wi_m19, wi_m20, wi_m21, wi_m22, wi_m23, wi_m24, wi_m25, hM]
/-- the street that is looked at: its 165 numbers -/
def SR (M : Nat → Nat → Int32) (base : Nat) (S : Nat → Int) : Prop := M 0 12 = J base ∧ base + 165 ≤ 4608 ∧ ∀ i, i < 165 → M 1 (base + i) = J (S i)
theorem SR.at {base i : Nat} {S : Nat → Int} (hS : SR M base S) {x : Int32} (hx : x = J ((base + i : Nat) : Int)) (hi : i < 165) : aIn x 4608 = true ∧ M 1 x.toNatClampNeg = J (S i) := by
  obtain ⟨h1, h2, h3⟩ := hS
  subst hx
  refine ⟨J_aIn (by omega) (by omega) (by omega), ?_⟩
  rw [J_nat (by omega), h3 i hi]
theorem of_sp (hM : MSh H μ) {base k f : Nat} {S : Nat → Int} (hS : SR M base S) (hk : k < 9) (hf : f < 9) : cl E lo (d + 1) 202 [.ref H, .int (J k), .int (J f)] (mm H μ M) = some (some (.int (J (S (68 + 9 * k + f)))), mm H μ M) := by
  have e : M 0 12 + 68 + 9 * J k + J f = J ((base + (68 + 9 * k + f) : Nat) : Int) := by
    rw [hS.1, Jl68, Jl9, J_mul, J_add, J_add, J_add]
    congr 1
    omega
  obtain ⟨g1, g2⟩ := hS.at e (by omega)
  rw [s202 hM, if_pos g1, g2]
theorem door_sp (hM : MSh H μ) {base a b : Nat} {S : Nat → Int} (hS : SR M base S) (ha : a < 8) (hb : b < 8) : cl E lo (d + 1) 207 [.ref H, .int (J a), .int (J b)] (mm H μ M) = some (some (.int (J (S (4 + 8 * a + b)))), mm H μ M) := by
  have e : M 0 12 + 4 + 8 * J a + J b = J ((base + (4 + 8 * a + b) : Nat) : Int) := by
    rw [hS.1, Jl4, Jl8, J_mul, J_add, J_add, J_add]
    congr 1
    omega
  obtain ⟨g1, g2⟩ := hS.at e (by omega)
  rw [s207 hM, if_pos g1, g2]
theorem slp_sp (hM : MSh H μ) {base : Nat} {S : Nat → Int} (hS : SR M base S) : cl E lo (d + 1) 203 [.ref H] (mm H μ M) = some (some (.int (J (S 2))), mm H μ M) := by
  have e : M 0 12 + 2 = J ((base + 2 : Nat) : Int) := by
    rw [hS.1, Jl2, J_add]
    congr 1
  obtain ⟨g1, g2⟩ := hS.at e (by omega)
  rw [s203 hM, if_pos g1, g2]
theorem hou_sp (hM : MSh H μ) {base : Nat} {S : Nat → Int} (hS : SR M base S) : cl E lo (d + 1) 204 [.ref H] (mm H μ M) = some (some (.int (J (S 0))), mm H μ M) := by
  have e : M 0 12 + 0 = J ((base + 0 : Nat) : Int) := by
    rw [hS.1, Jl0, J_add]
    congr 1
  obtain ⟨g1, g2⟩ := hS.at e (by omega)
  rw [s204 hM, if_pos g1, g2]
theorem isS_sp (hM : MSh H μ) {base : Nat} {S : Nat → Int} (hS : SR M base S) (x : Int32) : cl E lo (d + 2) 205 [.ref H, .int x] (mm H μ M) = some (some (.int (if x < 0 ∨ J (S 2) - 1 < x then 0 else 1)), mm H μ M) := by
  simp only [e205, b205_0, b205_6, b205_11, gO_m, hM, slp_sp hM hS, s168, Option.bind_some, Option.toList_some, List.cons_append, List.nil_append]
  by_cases h : x < 0 ∨ J (S 2) - 1 < x <;> simp [h]
theorem isH_sp (hM : MSh H μ) {base : Nat} {S : Nat → Int} (hS : SR M base S) (x : Int32) : cl E lo (d + 2) 206 [.ref H, .int x] (mm H μ M) = some (some (.int (if x < 0 ∨ J (S 0) - 1 < x then 0 else 1)), mm H μ M) := by
  simp only [e206, b206_0, b206_6, b206_11, gO_m, hM, hou_sp hM hS, s168, Option.bind_some, Option.toList_some, List.cons_append, List.nil_append]
  by_cases h : x < 0 ∨ J (S 0) - 1 < x <;> simp [h]
/-- who drinks when: as many as W -/
def WR (M : Nat → Nat → Int32) (W : Nat) (dk du : Nat → Int) : Prop := W ≤ 9 ∧ M 0 18 = J W ∧ ∀ w, w < W → M 7 w = J (dk w) ∧ M 8 w = J (du w) ∧ (0 ≤ dk w ∧ dk w < 9) ∧ (0 ≤ du w ∧ du w < 36)
def lateB (dk du : Nat → Int) (k r : Int) : Nat → Bool
  | 0 => false
  | n + 1 => lateB dk du k r n || (decide (dk n = k) && decide (r - 8 ≤ du n) && decide (du n ≤ r - 1))
def upS (W : Nat) (dk du : Nat → Int) (k r : Int) : Int := if lateB dk du k r W = true then (if 36 < r + 2 then 36 else r + 2) else r
theorem gu_loop (hM : MSh H μ) {W k : Nat} {dk du : Nat → Int} {r : Int} (hW : WR M W dk du) (hk : k < 9) (hr : M 5 k = J r) (hr2 : 0 ≤ r ∧ r < 100) : ∀ n i, i + n = W → ex PG E lo (d + 1) 210 4 [some (.ref H), some (.int (J k)), some (.int (J (b2i (lateB dk du k r i)))), some (.int (J i))] [] (mm H μ M) = ex PG E lo (d + 1) 210 67 [some (.ref H), some (.int (J k)), some (.int (J (b2i (lateB dk du k r W)))), some (.int (J W))] [] (mm H μ M) := by
  obtain ⟨hW9, hw0, hw⟩ := hW
  intro n
  induction n with
  | zero =>
    intro i hi
    obtain rfl : i = W := by omega
    rw [b210_4, gO_m hM, ri_mm0, hw0, if_pos ((J_le (by omega) (by omega)).mpr (Int.le_refl _))]
  | succ n ih =>
    intro i hi
    rw [b210_4, gO_m hM, ri_mm0, hw0, if_neg (by rw [J_le (by omega) (by omega)]; omega), b210_12]
    have hi1 : J ((i : Nat) : Int) + 1 = J ((i + 1 : Nat) : Int) := by
      rw [Jl1, J_add]
      congr 1
    obtain ⟨w1, w2, w3, w4⟩ := hw i (by omega)
    rw [← ih (i + 1) (by omega)]
    cases hl : lateB dk du k r i with
    | true =>
      rw [if_neg (by rw [b2i_0]; decide), b210_55, b210_60, hi1]
      simp only [lateB, hl, Bool.true_or, b2i, if_true]
      rfl
    | false =>
      rw [if_pos (by rw [b2i_0])]
      simp only [b210_16, b210_26, b210_52, b210_55, b210_59, b210_60, gO_m, gP_m, ri_mm0, wi_mm0, gR_m0, gR_m1, gR_m11, gR_m13, gR_m14, gR_m15, gR_m16, gR_m17, gR_m22, gR_m32, gR_m33, gR_m34, gR_m35, gR_m36, gR_m37, gR_m38, gR_m41, gR_m42, gR_m43, gR_m45, gR_m46, gR_m47, gR_m50, gR_m51, gR_m52, rd_m1, rd_m3, rd_m4, rd_m5, rd_m6, rd_m7, rd_m8, rd_m9, rd_m10, rd_m11, rd_m12, rd_m13, rd_m14, rd_m15, rd_m16, rd_m17, rd_m18, rd_m19, rd_m20, rd_m21, rd_m22, rd_m23, rd_m24, rd_m25, wr_m1, wr_m3, wr_m4, wr_m5, wr_m6, wr_m7, wr_m8, wr_m9, wr_m10, wr_m11, wr_m12, wr_m13, wr_m14, wr_m15, wr_m16, wr_m17, wr_m18, wr_m19, wr_m20, wr_m21, wr_m22, wr_m23, wr_m24, wr_m25, ri_m1, ri_m2, ri_m3, ri_m4, ri_m5, ri_m6, ri_m7, ri_m8, ri_m9, ri_m10, ri_m11, ri_m12, ri_m13, ri_m14, ri_m15, ri_m16, ri_m17, ri_m18, ri_m19, ri_m20, ri_m21, ri_m22, ri_m23, ri_m24, ri_m25, wi_m1, wi_m2, wi_m3, wi_m4, wi_m5, wi_m6, wi_m7, wi_m8, wi_m9, wi_m10, wi_m11, wi_m12, wi_m13, wi_m14, wi_m15, wi_m16, wi_m17, wi_m18, wi_m19, wi_m20, wi_m21, wi_m22, wi_m23, wi_m24, wi_m25, hM, J_aIn (a := (i : Int)) (n := 9) (by omega) (by omega) (by omega), J_aIn (a := (k : Int)) (n := 9) (by omega) (by omega) (by omega), if_true, J_nat (n := i) (by omega), J_nat (n := k) (by omega), w1, w2, hr, s168, Option.bind_some, Option.toList_some, List.cons_append, List.nil_append, hi1, Jl0, Jl1, Jl2, Jl3, Jl4, Jl5, Jl6, Jl7, Jl8, Jl9, Jl10, Jl11, Jl12, Jl13, Jl14, Jl15, Jl16, Jl17, Jl18, Jl19, Jl20, Jl22, Jl24, Jl28, Jl30, Jl32, Jl35, Jl36, Jl37, Jl38, Jl39, Jl40, Jl48, Jl57, Jl59, Jl60, Jl61, Jl63, Jl64, Jl68, Jl69, Jl96, Jl97, Jl98, Jl99, Jl100, Jl122, Jl149, Jl150, Jl165, Jl255, Jl511, Jl512, Jl600, Jl610, Jl940, Jl968, Jl999, Jl1134, Jl1152, Jl2048, Jl4608, Jl9999, Jl99999, Jl100000, Jl147456, Jl12345, Jl1103515245, Jl100000000, Jlm1, Jlm2, J_add, J_sub, J_mul]
      have c1 : (J (dk i) = J (k : Int)) ↔ dk i = k := J_eq (by omega) (by omega)
      have c2 : J (du i) < J (r - 8) ↔ du i < r - 8 := J_lt (by omega) (by omega)
      have c3 : J (r - 1) < J (du i) ↔ r - 1 < du i := J_lt (by omega) (by omega)
      have c4 : ((i + 1 : Nat) : Int) = (i : Int) + 1 := by omega
      have c5 : ¬ (J 1 = J 0) := by decide
      simp only [c1, c2, c3, c4, lateB, hl, Bool.false_or]
      by_cases h1 : dk i = k
      · by_cases h2 : du i < r - 8 ∨ r - 1 < du i
        · have h3 : (decide (r - 8 ≤ du i) && decide (du i ≤ r - 1)) = false := by
            rw [Bool.and_eq_false_iff, decide_eq_false_iff_not, decide_eq_false_iff_not]
            omega
          simp only [h1, h2, if_true, decide_true, Bool.true_and, h3, b2i, Bool.false_eq_true, if_false]
        · have h3 : (decide (r - 8 ≤ du i) && decide (du i ≤ r - 1)) = true := by
            rw [Bool.and_eq_true, decide_eq_true_eq, decide_eq_true_eq]
            omega
          simp only [h1, h2, if_true, if_false, decide_true, Bool.true_and, h3, b2i, c5]
      · simp only [h1, if_false, decide_false, Bool.false_and, b2i, Bool.false_eq_true]
theorem gu_sp (hM : MSh H μ) {W k : Nat} {dk du : Nat → Int} {r : Int} (hW : WR M W dk du) (hk : k < 9) (hr : M 5 k = J r) (hr2 : 0 ≤ r ∧ r < 100) : cl E lo (d + 2) 210 [.ref H, .int (J k)] (mm H μ M) = some (some (.int (J (upS W dk du k r))), mm H μ M) := by
  have h0 := gu_loop (E := E) (lo := lo) (d := d) hM hW hk hr hr2 W 0 (by omega)
  have e0 : J (b2i (lateB dk du k r 0)) = 0 := rfl
  have e1 : J ((0 : Nat) : Int) = 0 := by decide
  rw [e0, e1] at h0
  rw [e210, b210_0, h0, b210_67]
  have c5 : ¬ (J 1 = J 0) := by decide
  have c6 : J 36 < J (r + 2) ↔ 36 < r + 2 := J_lt (by omega) (by omega)
  cases hl : lateB dk du k r W with
  | true =>
    simp only [b210_71, b210_84, b210_93, gO_m, gP_m, ri_mm0, wi_mm0, gR_m0, gR_m1, gR_m11, gR_m13, gR_m14, gR_m15, gR_m16, gR_m17, gR_m22, gR_m32, gR_m33, gR_m34, gR_m35, gR_m36, gR_m37, gR_m38, gR_m41, gR_m42, gR_m43, gR_m45, gR_m46, gR_m47, gR_m50, gR_m51, gR_m52, rd_m1, rd_m3, rd_m4, rd_m5, rd_m6, rd_m7, rd_m8, rd_m9, rd_m10, rd_m11, rd_m12, rd_m13, rd_m14, rd_m15, rd_m16, rd_m17, rd_m18, rd_m19, rd_m20, rd_m21, rd_m22, rd_m23, rd_m24, rd_m25, wr_m1, wr_m3, wr_m4, wr_m5, wr_m6, wr_m7, wr_m8, wr_m9, wr_m10, wr_m11, wr_m12, wr_m13, wr_m14, wr_m15, wr_m16, wr_m17, wr_m18, wr_m19, wr_m20, wr_m21, wr_m22, wr_m23, wr_m24, wr_m25, ri_m1, ri_m2, ri_m3, ri_m4, ri_m5, ri_m6, ri_m7, ri_m8, ri_m9, ri_m10, ri_m11, ri_m12, ri_m13, ri_m14, ri_m15, ri_m16, ri_m17, ri_m18, ri_m19, ri_m20, ri_m21, ri_m22, ri_m23, ri_m24, ri_m25, wi_m1, wi_m2, wi_m3, wi_m4, wi_m5, wi_m6, wi_m7, wi_m8, wi_m9, wi_m10, wi_m11, wi_m12, wi_m13, wi_m14, wi_m15, wi_m16, wi_m17, wi_m18, wi_m19, wi_m20, wi_m21, wi_m22, wi_m23, wi_m24, wi_m25, hM, J_aIn (a := (k : Int)) (n := 9) (by omega) (by omega) (by omega), if_true, J_nat (n := k) (by omega), hr, s209, Option.bind_some, Option.toList_some, List.cons_append, List.nil_append, Jl0, Jl1, Jl2, Jl3, Jl4, Jl5, Jl6, Jl7, Jl8, Jl9, Jl10, Jl11, Jl12, Jl13, Jl14, Jl15, Jl16, Jl17, Jl18, Jl19, Jl20, Jl22, Jl24, Jl28, Jl30, Jl32, Jl35, Jl36, Jl37, Jl38, Jl39, Jl40, Jl48, Jl57, Jl59, Jl60, Jl61, Jl63, Jl64, Jl68, Jl69, Jl96, Jl97, Jl98, Jl99, Jl100, Jl122, Jl149, Jl150, Jl165, Jl255, Jl511, Jl512, Jl600, Jl610, Jl940, Jl968, Jl999, Jl1134, Jl1152, Jl2048, Jl4608, Jl9999, Jl99999, Jl100000, Jl147456, Jl12345, Jl1103515245, Jl100000000, Jlm1, Jlm2, J_add, J_sub, J_mul, b2i, c5, c6, if_false, upS, hl]
    by_cases h : 36 < r + 2 <;> simp only [h, if_true, if_false]
  | false =>
    simp only [b210_87, b210_93, gO_m, gP_m, ri_mm0, wi_mm0, gR_m0, gR_m1, gR_m11, gR_m13, gR_m14, gR_m15, gR_m16, gR_m17, gR_m22, gR_m32, gR_m33, gR_m34, gR_m35, gR_m36, gR_m37, gR_m38, gR_m41, gR_m42, gR_m43, gR_m45, gR_m46, gR_m47, gR_m50, gR_m51, gR_m52, rd_m1, rd_m3, rd_m4, rd_m5, rd_m6, rd_m7, rd_m8, rd_m9, rd_m10, rd_m11, rd_m12, rd_m13, rd_m14, rd_m15, rd_m16, rd_m17, rd_m18, rd_m19, rd_m20, rd_m21, rd_m22, rd_m23, rd_m24, rd_m25, wr_m1, wr_m3, wr_m4, wr_m5, wr_m6, wr_m7, wr_m8, wr_m9, wr_m10, wr_m11, wr_m12, wr_m13, wr_m14, wr_m15, wr_m16, wr_m17, wr_m18, wr_m19, wr_m20, wr_m21, wr_m22, wr_m23, wr_m24, wr_m25, ri_m1, ri_m2, ri_m3, ri_m4, ri_m5, ri_m6, ri_m7, ri_m8, ri_m9, ri_m10, ri_m11, ri_m12, ri_m13, ri_m14, ri_m15, ri_m16, ri_m17, ri_m18, ri_m19, ri_m20, ri_m21, ri_m22, ri_m23, ri_m24, ri_m25, wi_m1, wi_m2, wi_m3, wi_m4, wi_m5, wi_m6, wi_m7, wi_m8, wi_m9, wi_m10, wi_m11, wi_m12, wi_m13, wi_m14, wi_m15, wi_m16, wi_m17, wi_m18, wi_m19, wi_m20, wi_m21, wi_m22, wi_m23, wi_m24, wi_m25, hM, J_aIn (a := (k : Int)) (n := 9) (by omega) (by omega) (by omega), if_true, J_nat (n := k) (by omega), hr, Jl0, Jl1, Jl2, Jl3, Jl4, Jl5, Jl6, Jl7, Jl8, Jl9, Jl10, Jl11, Jl12, Jl13, Jl14, Jl15, Jl16, Jl17, Jl18, Jl19, Jl20, Jl22, Jl24, Jl28, Jl30, Jl32, Jl35, Jl36, Jl37, Jl38, Jl39, Jl40, Jl48, Jl57, Jl59, Jl60, Jl61, Jl63, Jl64, Jl68, Jl69, Jl96, Jl97, Jl98, Jl99, Jl100, Jl122, Jl149, Jl150, Jl165, Jl255, Jl511, Jl512, Jl600, Jl610, Jl940, Jl968, Jl999, Jl1134, Jl1152, Jl2048, Jl4608, Jl9999, Jl99999, Jl100000, Jl147456, Jl12345, Jl1103515245, Jl100000000, Jlm1, Jlm2, J_add, J_sub, J_mul, b2i, if_false, upS, hl, Bool.false_eq_true]
theorem as_sp (hM : MSh H μ) {W k : Nat} {dk du : Nat → Int} {r l u : Int} (hW : WR M W dk du) (hk : k < 9) (hr : M 5 k = J r) (hr2 : 0 ≤ r ∧ r < 100) (hl : M 4 k = J l) (hl2 : 0 ≤ l ∧ l < 100) (hu : -1000 ≤ u ∧ u < 1000) : cl E lo (d + 3) 211 [.ref H, .int (J k), .int (J u)] (mm H μ M) = some (some (.int (J (b2i (decide (l ≤ u ∧ u < upS W dk du k r))))), mm H μ M) := by
  have hup : 0 ≤ upS W dk du k r ∧ upS W dk du k r < 200 := by
    unfold upS
    split
    · split <;> omega
    · omega
  have c1 : J u < J l ↔ u < l := J_lt (by omega) (by omega)
  have c2 : J (upS W dk du k r) ≤ J u ↔ upS W dk du k r ≤ u := J_le (by omega) (by omega)
  simp only [e211, b211_0, b211_10, b211_16, b211_19, b211_23, b211_24, gO_m, gP_m, ri_mm0, wi_mm0, gR_m0, gR_m1, gR_m11, gR_m13, gR_m14, gR_m15, gR_m16, gR_m17, gR_m22, gR_m32, gR_m33, gR_m34, gR_m35, gR_m36, gR_m37, gR_m38, gR_m41, gR_m42, gR_m43, gR_m45, gR_m46, gR_m47, gR_m50, gR_m51, gR_m52, rd_m1, rd_m3, rd_m4, rd_m5, rd_m6, rd_m7, rd_m8, rd_m9, rd_m10, rd_m11, rd_m12, rd_m13, rd_m14, rd_m15, rd_m16, rd_m17, rd_m18, rd_m19, rd_m20, rd_m21, rd_m22, rd_m23, rd_m24, rd_m25, wr_m1, wr_m3, wr_m4, wr_m5, wr_m6, wr_m7, wr_m8, wr_m9, wr_m10, wr_m11, wr_m12, wr_m13, wr_m14, wr_m15, wr_m16, wr_m17, wr_m18, wr_m19, wr_m20, wr_m21, wr_m22, wr_m23, wr_m24, wr_m25, ri_m1, ri_m2, ri_m3, ri_m4, ri_m5, ri_m6, ri_m7, ri_m8, ri_m9, ri_m10, ri_m11, ri_m12, ri_m13, ri_m14, ri_m15, ri_m16, ri_m17, ri_m18, ri_m19, ri_m20, ri_m21, ri_m22, ri_m23, ri_m24, ri_m25, wi_m1, wi_m2, wi_m3, wi_m4, wi_m5, wi_m6, wi_m7, wi_m8, wi_m9, wi_m10, wi_m11, wi_m12, wi_m13, wi_m14, wi_m15, wi_m16, wi_m17, wi_m18, wi_m19, wi_m20, wi_m21, wi_m22, wi_m23, wi_m24, wi_m25, hM, J_aIn (a := (k : Int)) (n := 9) (by omega) (by omega) (by omega), if_true, J_nat (n := k) (by omega), hl, gu_sp hM hW hk hr hr2, Option.bind_some, Option.toList_some, List.cons_append, List.nil_append, c1, c2]
  by_cases h1 : u < l
  · have : ¬ (l ≤ u ∧ u < upS W dk du k r) := by omega
    simp only [h1, this, if_true, decide_false, b2i, Bool.false_eq_true, if_false, true_or]
    rfl
  · by_cases h2 : upS W dk du k r ≤ u
    · have : ¬ (l ≤ u ∧ u < upS W dk du k r) := by omega
      simp only [h1, h2, this, if_true, if_false, decide_false, b2i, Bool.false_eq_true, true_or]
      rfl
    · have : l ≤ u ∧ u < upS W dk du k r := by omega
      simp only [h1, h2, this, if_false, if_true, decide_true, b2i, or_true, and_self]
      rfl
end REF1
