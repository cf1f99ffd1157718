/-! THE REFERENCE: who sleeps how deep -/
section REF2
variable {E : (Nat → Value) × (Nat → Nat)} {lo d H : Nat} {μ : rM} {M : Nat → Nat → Int32}
def popB (p u : Int) : Bool := decide (p ≠ -1 ∧ p ≤ u)
theorem hp_sp (hM : MSh H μ) {base k : Nat} {S : Nat → Int} (hS : SR M base S) (hk : k < 9) {u : Int} (hu : -1000 ≤ u ∧ u < 1000) (hp : -1 ≤ S (68 + 9 * k + 7) ∧ S (68 + 9 * k + 7) < 100) : cl E lo (d + 2) 212 [.ref H, .int (J k), .int (J u)] (mm H μ M) = some (some (.int (J (b2i (popB (S (68 + 9 * k + 7)) u)))), mm H μ M) := by
  have hof := of_sp (E := E) (lo := lo) (d := d) hM hS hk (f := 7) (by omega)
  rw [show J ((7 : Nat) : Int) = J 7 from rfl] at hof
  have c1 : J (S (68 + 9 * k + 7)) = J (-1) ↔ S (68 + 9 * k + 7) = -1 := J_eq (by omega) (by omega)
  have c2 : J u < J (S (68 + 9 * k + 7)) ↔ u < S (68 + 9 * k + 7) := J_lt (by omega) (by omega)
  simp only [e212, b212_0, b212_7, b212_11, b212_18, b212_22, b212_26, b212_27, gO_m, hM, Jl7, Jlm1, hof, Option.bind_some, Option.toList_some, Option.toList_none, List.cons_append, List.nil_append, c1, c2]
  unfold popB
  by_cases h1 : S (68 + 9 * k + 7) = -1
  · simp [h1, b2i, Jl0]
  · by_cases h2 : u < S (68 + 9 * k + 7)
    · simp [h1, h2, b2i, Jl0, Int.not_le.mpr h2]
    · simp [h1, h2, b2i, Jl1, Int.not_lt.mp h2]
/-- the first n of an array all v -/
def fil (M : Nat → Nat → Int32) (c : Nat) (v : Int32) (n : Nat) : Nat → Nat → Int32 := fun c' j => if c' = c ∧ j < n then v else M c' j
theorem fil_0 (c : Nat) (v : Int32) : fil M c v 0 = M := by
  funext c' j
  unfold fil
  rw [if_neg (by omega)]
theorem fil_up (c : Nat) (v : Int32) (n : Nat) : up2 (fil M c v n) c n v = fil M c v (n + 1) := by
  funext c' j
  unfold up2 fil
  by_cases h : c' = c ∧ j = n
  · rw [if_pos h, if_pos (by omega)]
  · rw [if_neg h]
    by_cases h2 : c' = c ∧ j < n
    · rw [if_pos h2, if_pos (by omega)]
    · rw [if_neg h2, if_neg (by omega)]
theorem J_s (i : Nat) : J (i : Int) + 1 = J ((i + 1 : Nat) : Int) := by
  rw [Jl1, J_add]
  congr 1
theorem nb_loop (hM : MSh H μ) (hlo : lo ≤ H) : ∀ n i : Nat, i + n = 9 → ex PG E lo d 213 2 [some (.ref H), some (.int (J i))] [] (mm H μ (fil M 9 (-1) i)) = some (none, mm H μ (fil M 9 (-1) 9)) := by
  intro n
  induction n with
  | zero =>
    intro i hi
    obtain rfl : i = 9 := by omega
    rw [b213_2, if_pos (by decide), b213_21]
  | succ n ih =>
    intro i hi
    rw [b213_2, if_neg (by rw [Jl9, J_le (by omega) (by omega)]; omega)]
    simp only [b213_8, b213_15, gO_m, gP_m, ri_mm0, wi_mm0, gR_m0, gR_m1, gR_m11, gR_m13, gR_m14, gR_m15, gR_m16, gR_m17, gR_m22, gR_m32, gR_m33, gR_m34, gR_m35, gR_m36, gR_m37, gR_m38, gR_m41, gR_m42, gR_m43, gR_m45, gR_m46, gR_m47, gR_m50, gR_m51, gR_m52, rd_m1, rd_m3, rd_m4, rd_m5, rd_m6, rd_m7, rd_m8, rd_m9, rd_m10, rd_m11, rd_m12, rd_m13, rd_m14, rd_m15, rd_m16, rd_m17, rd_m18, rd_m19, rd_m20, rd_m21, rd_m22, rd_m23, rd_m24, rd_m25, wr_m1, wr_m3, wr_m4, wr_m5, wr_m6, wr_m7, wr_m8, wr_m9, wr_m10, wr_m11, wr_m12, wr_m13, wr_m14, wr_m15, wr_m16, wr_m17, wr_m18, wr_m19, wr_m20, wr_m21, wr_m22, wr_m23, wr_m24, wr_m25, ri_m1, ri_m2, ri_m3, ri_m4, ri_m5, ri_m6, ri_m7, ri_m8, ri_m9, ri_m10, ri_m11, ri_m12, ri_m13, ri_m14, ri_m15, ri_m16, ri_m17, ri_m18, ri_m19, ri_m20, ri_m21, ri_m22, ri_m23, ri_m24, ri_m25, wi_m1, wi_m2, wi_m3, wi_m4, wi_m5, wi_m6, wi_m7, wi_m8, wi_m9, wi_m10, wi_m11, wi_m12, wi_m13, wi_m14, wi_m15, wi_m16, wi_m17, wi_m18, wi_m19, wi_m20, wi_m21, wi_m22, wi_m23, wi_m24, wi_m25, hM, hlo, J_aIn (a := (i : Int)) (n := 9) (by omega) (by omega) (by omega), J_nat (n := i) (by omega), if_true, fil_up, J_s]
    exact ih (i + 1) (by omega)
theorem nb_sp (hM : MSh H μ) (hlo : lo ≤ H) : cl E lo (d + 1) 213 [.ref H] (mm H μ M) = some (none, mm H μ (fil M 9 (-1) 9)) := by
  have h := nb_loop (E := E) (d := d) (M := M) hM hlo 9 0 (by omega)
  rw [fil_0] at h
  rw [e213, b213_0]
  exact h
/-- since when he sleeps: lain down, woken, alarmed -/
def sinS (asl : Int → Bool) (k u wk li al a1 a2 : Int) : Int :=
  let s0 := if wk ≤ li then li else wk
  let s1 := if al = k ∧ a1 ≤ u ∧ s0 < a1 ∧ asl a1 = true then a1 else s0
  if al = k ∧ a2 ≤ u ∧ s1 < a2 ∧ asl a2 = true then a2 else s1
/-- three for each wine of the last units -/
def wnS (dk du : Nat → Int) (k u : Int) : Nat → Int
  | 0 => 0
  | n + 1 => wnS dk du k u n + (if dk n = k ∧ u - 5 ≤ du n ∧ du n ≤ u then 3 else 0)
theorem wnS_b (dk du : Nat → Int) (k u : Int) (n : Nat) : 0 ≤ wnS dk du k u n ∧ wnS dk du k u n ≤ 3 * n := by
  induction n with
  | zero => simp [wnS]
  | succ n ih =>
    unfold wnS
    split <;> omega
def depS (W : Nat) (dk du : Nat → Int) (k u sn mn sk dp pp : Int) : Int :=
  let v := (if sk * (u - sn) < dp + (if popB pp u = true then 9 else 0) then sk * (u - sn) else dp + (if popB pp u = true then 9 else 0)) + (if u = sn then 0 else wnS dk du k u W)
  if mn = 1 ∧ 0 < v then v - 1 else v
theorem dp_loop (hM : MSh H μ) {W k : Nat} {dk du : Nat → Int} {u sn v : Int} (hW : WR M W dk du) (hk : k < 9) (hu : 0 ≤ u ∧ u < 100) (hne : ¬ J u = J sn) (hv : -100000 ≤ v ∧ v < 100000) : ∀ n i, i + n = W → ex PG E lo (d + 1) 214 165 [some (.ref H), some (.int (J k)), some (.int (J u)), some (.int (J sn)), some (.int (J (v + wnS dk du k u i))), some (.int (J i))] [] (mm H μ M) = ex PG E lo (d + 1) 214 223 [some (.ref H), some (.int (J k)), some (.int (J u)), some (.int (J sn)), some (.int (J (v + wnS dk du k u W))), some (.int (J W))] [] (mm H μ M) := by
  obtain ⟨hW9, hw0, hw⟩ := hW
  intro n
  induction n with
  | zero =>
    intro i hi
    obtain rfl : i = W := by omega
    rw [b214_165, gO_m hM, ri_mm0, hw0, if_pos ((J_le (by omega) (by omega)).mpr (Int.le_refl _))]
  | succ n ih =>
    intro i hi
    rw [b214_165, gO_m hM, ri_mm0, hw0, if_neg (by rw [J_le (by omega) (by omega)]; omega), b214_174, if_neg hne, ← ih (i + 1) (by omega)]
    obtain ⟨w1, w2, w3, w4⟩ := hw i (by omega)
    have c1 : (J (dk i) = J (k : Int)) ↔ dk i = k := J_eq (by omega) (by omega)
    have c2 : J (du i) < J (u - 5) ↔ du i < u - 5 := J_lt (by omega) (by omega)
    have c3 : J u < J (du i) ↔ u < du i := J_lt (by omega) (by omega)
    have c4 : ((i + 1 : Nat) : Int) = (i : Int) + 1 := by omega
    have c5 : ¬ (J 1 = J 0) := by decide
    simp only [b214_179, b214_192, b214_206, b214_209, b214_213, b214_214, gO_m, gP_m, ri_mm0, wi_mm0, gR_m0, gR_m1, gR_m11, gR_m13, gR_m14, gR_m15, gR_m16, gR_m17, gR_m22, gR_m32, gR_m33, gR_m34, gR_m35, gR_m36, gR_m37, gR_m38, gR_m41, gR_m42, gR_m43, gR_m45, gR_m46, gR_m47, gR_m50, gR_m51, gR_m52, rd_m1, rd_m3, rd_m4, rd_m5, rd_m6, rd_m7, rd_m8, rd_m9, rd_m10, rd_m11, rd_m12, rd_m13, rd_m14, rd_m15, rd_m16, rd_m17, rd_m18, rd_m19, rd_m20, rd_m21, rd_m22, rd_m23, rd_m24, rd_m25, wr_m1, wr_m3, wr_m4, wr_m5, wr_m6, wr_m7, wr_m8, wr_m9, wr_m10, wr_m11, wr_m12, wr_m13, wr_m14, wr_m15, wr_m16, wr_m17, wr_m18, wr_m19, wr_m20, wr_m21, wr_m22, wr_m23, wr_m24, wr_m25, ri_m1, ri_m2, ri_m3, ri_m4, ri_m5, ri_m6, ri_m7, ri_m8, ri_m9, ri_m10, ri_m11, ri_m12, ri_m13, ri_m14, ri_m15, ri_m16, ri_m17, ri_m18, ri_m19, ri_m20, ri_m21, ri_m22, ri_m23, ri_m24, ri_m25, wi_m1, wi_m2, wi_m3, wi_m4, wi_m5, wi_m6, wi_m7, wi_m8, wi_m9, wi_m10, wi_m11, wi_m12, wi_m13, wi_m14, wi_m15, wi_m16, wi_m17, wi_m18, wi_m19, wi_m20, wi_m21, wi_m22, wi_m23, wi_m24, wi_m25, hM, J_aIn (a := (i : Int)) (n := 9) (by omega) (by omega) (by omega), J_nat (n := i) (by omega), J_aIn (a := (k : Int)) (n := 9) (by omega) (by omega) (by omega), J_nat (n := k) (by omega), if_true, w1, w2, s168, Option.bind_some, Option.toList_some, Option.toList_none, List.cons_append, List.nil_append, Jl0, Jl1, Jl2, Jl3, Jl4, Jl5, Jl6, Jl7, Jl8, Jl9, Jl10, Jl11, Jl12, Jl13, Jl14, Jl15, Jl16, Jl17, Jl18, Jl19, Jl20, Jl22, Jl24, Jl28, Jl30, Jl32, Jl35, Jl36, Jl37, Jl38, Jl39, Jl40, Jl48, Jl57, Jl59, Jl60, Jl61, Jl63, Jl64, Jl68, Jl69, Jl96, Jl97, Jl98, Jl99, Jl100, Jl122, Jl149, Jl150, Jl165, Jl255, Jl511, Jl512, Jl600, Jl610, Jl940, Jl968, Jl999, Jl1134, Jl1152, Jl2048, Jl4608, Jl9999, Jl99999, Jl100000, Jl147456, Jl12345, Jl1103515245, Jl100000000, Jlm1, Jlm2, J_add, J_sub, J_mul, c1, c2, c3, c4, wnS]
    by_cases h1 : dk i = k
    · by_cases h2 : du i < u - 5 ∨ u < du i
      · have h3 : ¬ (u - 5 ≤ du i ∧ du i ≤ u) := by omega
        simp only [h1, h2, h3, if_true, and_false, if_false, Int.add_zero]
      · have h3 : u - 5 ≤ du i ∧ du i ≤ u := by omega
        simp only [h1, h2, h3, if_true, if_false, and_self, c5, Int.add_assoc]
    · simp only [h1, if_false, false_and, Int.add_zero]
/-- whether he sleeps at t -/
def aslS (W : Nat) (dk du : Nat → Int) (k li r : Int) (t : Int) : Bool := decide (li ≤ t ∧ t < upS W dk du k r)
/-- one sleeper's numbers in the memory -/
def KR (M : Nat → Nat → Int32) (k : Nat) (li r wk al a1 a2 : Int) : Prop := M 4 k = J li ∧ M 5 k = J r ∧ M 9 k = J wk ∧ M 0 19 = J al ∧ M 0 20 = J a1 ∧ M 0 21 = J a2 ∧ (0 ≤ li ∧ li < 100) ∧ (0 ≤ r ∧ r < 100) ∧ (-1 ≤ wk ∧ wk < 100) ∧ (-1 ≤ al ∧ al < 100) ∧ (-1 ≤ a1 ∧ a1 < 100) ∧ (-1 ≤ a2 ∧ a2 < 100)
theorem b2i_J0 (b : Bool) : (J (b2i b) = 0) = (b = false) := propext (b2i_0 b)
theorem dp_a1 (hM : MSh H μ) {W k : Nat} {dk du : Nat → Int} {u s0 li r wk al a1 a2 : Int} (hW : WR M W dk du) (hk : k < 9) (hK : KR M k li r wk al a1 a2) (hu : 0 ≤ u ∧ u < 100) (hs : -1 ≤ s0 ∧ s0 < 100) : ex PG E lo (d + 3) 214 41 [some (.ref H), some (.int (J k)), some (.int (J u)), none, none, none] [.int (J s0)] (mm H μ M) = ex PG E lo (d + 3) 214 83 [some (.ref H), some (.int (J k)), some (.int (J u)), some (.int (J (if al = k ∧ a1 ≤ u ∧ s0 < a1 ∧ aslS W dk du k li r a1 = true then a1 else s0))), none, none] [] (mm H μ M) := by
  obtain ⟨g1, g2, g3, g4, g5, g6, r1, r2, r3, r4, r5, r6⟩ := hK
  have c1 : (J al = J (k : Int)) ↔ al = k := J_eq (by omega) (by omega)
  have c2 : J u < J a1 ↔ u < a1 := J_lt (by omega) (by omega)
  have c3 : J a1 ≤ J s0 ↔ a1 ≤ s0 := J_le (by omega) (by omega)
  have ha := as_sp (E := E) (lo := lo) (d := d) hM hW hk g2 r2 g1 r1 (u := a1) (by omega)
  simp only [b214_41, b214_50, b214_58, b214_66, b214_75, b214_78, gO_m, gP_m, ri_mm0, wi_mm0, gR_m0, gR_m1, gR_m11, gR_m13, gR_m14, gR_m15, gR_m16, gR_m17, gR_m22, gR_m32, gR_m33, gR_m34, gR_m35, gR_m36, gR_m37, gR_m38, gR_m41, gR_m42, gR_m43, gR_m45, gR_m46, gR_m47, gR_m50, gR_m51, gR_m52, rd_m1, rd_m3, rd_m4, rd_m5, rd_m6, rd_m7, rd_m8, rd_m9, rd_m10, rd_m11, rd_m12, rd_m13, rd_m14, rd_m15, rd_m16, rd_m17, rd_m18, rd_m19, rd_m20, rd_m21, rd_m22, rd_m23, rd_m24, rd_m25, wr_m1, wr_m3, wr_m4, wr_m5, wr_m6, wr_m7, wr_m8, wr_m9, wr_m10, wr_m11, wr_m12, wr_m13, wr_m14, wr_m15, wr_m16, wr_m17, wr_m18, wr_m19, wr_m20, wr_m21, wr_m22, wr_m23, wr_m24, wr_m25, ri_m1, ri_m2, ri_m3, ri_m4, ri_m5, ri_m6, ri_m7, ri_m8, ri_m9, ri_m10, ri_m11, ri_m12, ri_m13, ri_m14, ri_m15, ri_m16, ri_m17, ri_m18, ri_m19, ri_m20, ri_m21, ri_m22, ri_m23, ri_m24, ri_m25, wi_m1, wi_m2, wi_m3, wi_m4, wi_m5, wi_m6, wi_m7, wi_m8, wi_m9, wi_m10, wi_m11, wi_m12, wi_m13, wi_m14, wi_m15, wi_m16, wi_m17, wi_m18, wi_m19, wi_m20, wi_m21, wi_m22, wi_m23, wi_m24, wi_m25, hM, g4, g5, c1, c2, c3, ha, Option.bind_some, Option.toList_some, Option.toList_none, List.cons_append, List.nil_append, b2i_J0]
  by_cases h1 : al = k
  · by_cases h2 : u < a1
    · have : ¬ a1 ≤ u := by omega
      simp only [h1, h2, this, if_true, false_and, and_false, if_false]
    · by_cases h3 : a1 ≤ s0
      · have : ¬ s0 < a1 := by omega
        simp only [h1, h2, h3, this, if_true, false_and, and_false, if_false]
      · have h2' : a1 ≤ u := by omega
        have h3' : s0 < a1 := by omega
        simp only [h1, h2, h3, h2', h3', if_true, if_false, true_and, aslS]
        cases hb : decide (li ≤ a1 ∧ a1 < upS W dk du (k : Int) r) <;> simp only [if_true, if_false, Bool.false_eq_true, Bool.true_eq_false]
  · simp only [h1, if_false, false_and]
theorem dp_a2 (hM : MSh H μ) {W k : Nat} {dk du : Nat → Int} {u s0 li r wk al a1 a2 : Int} (hW : WR M W dk du) (hk : k < 9) (hK : KR M k li r wk al a1 a2) (hu : 0 ≤ u ∧ u < 100) (hs : -1 ≤ s0 ∧ s0 < 100) : ex PG E lo (d + 3) 214 83 [some (.ref H), some (.int (J k)), some (.int (J u)), some (.int (J s0)), none, none] [] (mm H μ M) = ex PG E lo (d + 3) 214 124 [some (.ref H), some (.int (J k)), some (.int (J u)), some (.int (J (if al = k ∧ a2 ≤ u ∧ s0 < a2 ∧ aslS W dk du k li r a2 = true then a2 else s0))), none, none] [] (mm H μ M) := by
  obtain ⟨g1, g2, g3, g4, g5, g6, r1, r2, r3, r4, r5, r6⟩ := hK
  have c1 : (J al = J (k : Int)) ↔ al = k := J_eq (by omega) (by omega)
  have c2 : J u < J a2 ↔ u < a2 := J_lt (by omega) (by omega)
  have c3 : J a2 ≤ J s0 ↔ a2 ≤ s0 := J_le (by omega) (by omega)
  have ha := as_sp (E := E) (lo := lo) (d := d) hM hW hk g2 r2 g1 r1 (u := a2) (by omega)
  simp only [b214_83, b214_91, b214_99, b214_107, b214_116, b214_119, gO_m, gP_m, ri_mm0, wi_mm0, gR_m0, gR_m1, gR_m11, gR_m13, gR_m14, gR_m15, gR_m16, gR_m17, gR_m22, gR_m32, gR_m33, gR_m34, gR_m35, gR_m36, gR_m37, gR_m38, gR_m41, gR_m42, gR_m43, gR_m45, gR_m46, gR_m47, gR_m50, gR_m51, gR_m52, rd_m1, rd_m3, rd_m4, rd_m5, rd_m6, rd_m7, rd_m8, rd_m9, rd_m10, rd_m11, rd_m12, rd_m13, rd_m14, rd_m15, rd_m16, rd_m17, rd_m18, rd_m19, rd_m20, rd_m21, rd_m22, rd_m23, rd_m24, rd_m25, wr_m1, wr_m3, wr_m4, wr_m5, wr_m6, wr_m7, wr_m8, wr_m9, wr_m10, wr_m11, wr_m12, wr_m13, wr_m14, wr_m15, wr_m16, wr_m17, wr_m18, wr_m19, wr_m20, wr_m21, wr_m22, wr_m23, wr_m24, wr_m25, ri_m1, ri_m2, ri_m3, ri_m4, ri_m5, ri_m6, ri_m7, ri_m8, ri_m9, ri_m10, ri_m11, ri_m12, ri_m13, ri_m14, ri_m15, ri_m16, ri_m17, ri_m18, ri_m19, ri_m20, ri_m21, ri_m22, ri_m23, ri_m24, ri_m25, wi_m1, wi_m2, wi_m3, wi_m4, wi_m5, wi_m6, wi_m7, wi_m8, wi_m9, wi_m10, wi_m11, wi_m12, wi_m13, wi_m14, wi_m15, wi_m16, wi_m17, wi_m18, wi_m19, wi_m20, wi_m21, wi_m22, wi_m23, wi_m24, wi_m25, hM, g4, g6, c1, c2, c3, ha, Option.bind_some, Option.toList_some, Option.toList_none, List.cons_append, List.nil_append, b2i_J0]
  by_cases h1 : al = k
  · by_cases h2 : u < a2
    · have : ¬ a2 ≤ u := by omega
      simp only [h1, h2, this, if_true, false_and, and_false, if_false]
    · by_cases h3 : a2 ≤ s0
      · have : ¬ s0 < a2 := by omega
        simp only [h1, h2, h3, this, if_true, false_and, and_false, if_false]
      · have h2' : a2 ≤ u := by omega
        have h3' : s0 < a2 := by omega
        simp only [h1, h2, h3, h2', h3', if_true, if_false, true_and, aslS]
        cases hb : decide (li ≤ a2 ∧ a2 < upS W dk du (k : Int) r) <;> simp only [if_true, if_false, Bool.false_eq_true, Bool.true_eq_false]
  · simp only [h1, if_false, false_and]
theorem mul_b {a b A B : Int} (ha : 0 ≤ a ∧ a ≤ A) (hb : -B ≤ b ∧ b ≤ B) : -(A * B) ≤ a * b ∧ a * b ≤ A * B := by
  have hB : 0 ≤ B := by omega
  have h1 : a * b ≤ a * B := Int.mul_le_mul_of_nonneg_left hb.2 ha.1
  have h2 : a * B ≤ A * B := Int.mul_le_mul_of_nonneg_right ha.2 hB
  have h3 : a * (-B) ≤ a * b := Int.mul_le_mul_of_nonneg_left hb.1 ha.1
  have h4 : a * (-B) = -(a * B) := Int.mul_neg a B
  omega
/-- the numbers of a sleeper of the street, within bounds -/
def SV (S : Nat → Int) (k : Nat) : Prop := (0 ≤ S (68 + 9 * k + 0) ∧ S (68 + 9 * k + 0) < 100) ∧ (0 ≤ S (68 + 9 * k + 5) ∧ S (68 + 9 * k + 5) ≤ 100) ∧ (0 ≤ S (68 + 9 * k + 6) ∧ S (68 + 9 * k + 6) < 1000) ∧ (-1 ≤ S (68 + 9 * k + 7) ∧ S (68 + 9 * k + 7) < 100)
theorem dp_3 (hM : MSh H μ) {base W k : Nat} {S : Nat → Int} {dk du : Nat → Int} {u sn : Int} (hS : SR M base S) (hV : SV S k) (hW : WR M W dk du) (hk : k < 9) (hu : 0 ≤ u ∧ u < 100) (hs : -1 ≤ sn ∧ sn < 100) : ex PG E lo (d + 3) 214 124 [some (.ref H), some (.int (J k)), some (.int (J u)), some (.int (J sn)), none, none] [] (mm H μ M) = some (some (.int (J (depS W dk du k u sn (S (68 + 9 * k + 0)) (S (68 + 9 * k + 5)) (S (68 + 9 * k + 6)) (S (68 + 9 * k + 7))))), mm H μ M) := by
  obtain ⟨v0, v5, v6, v7⟩ := hV
  have o0 := of_sp (E := E) (lo := lo) (d := d + 2) hM hS hk (f := 0) (by omega)
  have o5 := of_sp (E := E) (lo := lo) (d := d + 2) hM hS hk (f := 5) (by omega)
  have o6 := of_sp (E := E) (lo := lo) (d := d + 2) hM hS hk (f := 6) (by omega)
  have op := hp_sp (E := E) (lo := lo) (d := d + 1) hM hS hk (u := u) (by omega) v7
  rw [show J ((0 : Nat) : Int) = J 0 from rfl] at o0
  rw [show J ((5 : Nat) : Int) = J 5 from rfl] at o5
  rw [show J ((6 : Nat) : Int) = J 6 from rfl] at o6
  have hmb := mul_b (a := S (68 + 9 * k + 5)) (b := u - sn) (A := 100) (B := 101) v5 (by omega)
  generalize hx : S (68 + 9 * k + 5) * (u - sn) = x at hmb
  generalize hy : (if popB (S (68 + 9 * k + 7)) u = true then (9 : Int) else 0) = y
  have hyb : 0 ≤ y ∧ y ≤ 9 := by rw [← hy]; split <;> omega
  have c1 : J x < J (S (68 + 9 * k + 6) + y) ↔ x < S (68 + 9 * k + 6) + y := J_lt (by omega) (by omega)
  generalize hv : (if x < S (68 + 9 * k + 6) + y then x else S (68 + 9 * k + 6) + y) = v
  have hvb : -100000 ≤ v ∧ v < 100000 := by rw [← hv]; split <;> omega
  have hstep : ex PG E lo (d + 3) 214 124 [some (.ref H), some (.int (J k)), some (.int (J u)), some (.int (J sn)), none, none] [] (mm H μ M) = ex PG E lo (d + 3) 214 165 [some (.ref H), some (.int (J k)), some (.int (J u)), some (.int (J sn)), some (.int (J v)), some (.int (J 0))] [] (mm H μ M) := by
    simp only [b214_124, b214_130, b214_141, b214_147, b214_150, b214_155, b214_156, b214_160, gO_m, hM, Jl5, Jl6, Jl9, Jl0, o5, o6, op, s209, Option.bind_some, Option.toList_some, Option.toList_none, List.cons_append, List.nil_append, J_sub, J_mul, hx]
    rw [← hv, ← hy]
    cases hb : popB (S (68 + 9 * k + 7)) u with
    | false =>
      have hy0 : y = 0 := by rw [← hy, hb]; rfl
      rw [hy0] at c1
      have e1 : J (b2i false) = J 0 := rfl
      simp only [e1, if_true, J_add, c1, Bool.false_eq_true, if_false]
      by_cases h : x < S (68 + 9 * k + 6) + 0 <;> simp only [h, if_true, if_false]
    | true =>
      have hy0 : y = 9 := by rw [← hy, hb]; rfl
      rw [hy0] at c1
      have e1 : ¬ J (b2i true) = J 0 := by decide
      simp only [e1, if_false, J_add, c1, if_true]
      by_cases h : x < S (68 + 9 * k + 6) + 9 <;> simp only [h, if_true, if_false]
  have hend : ∀ (w : Int) (q : Int32), -100000 ≤ w ∧ w < 200000 → ex PG E lo (d + 3) 214 223 [some (.ref H), some (.int (J k)), some (.int (J u)), some (.int (J sn)), some (.int (J w)), some (.int q)] [] (mm H μ M) = some (some (.int (J (if S (68 + 9 * k + 0) = 1 ∧ 0 < w then w - 1 else w))), mm H μ M) := by
    intro w q hw
    have c2 : J (S (68 + 9 * k + 0)) = J 1 ↔ S (68 + 9 * k + 0) = 1 := J_eq (by omega) (by omega)
    have c3 : J w ≤ J 0 ↔ w ≤ 0 := J_le (by omega) (by omega)
    simp only [b214_223, b214_229, b214_233, b214_238, b214_245, b214_247, gO_m, hM, Jl0, Jl1, o0, Option.bind_some, Option.toList_some, Option.toList_none, List.cons_append, List.nil_append, c2, c3, J_sub]
    by_cases h1 : S (68 + 9 * k + 0) = 1
    · by_cases h2 : w ≤ 0
      · have : ¬ 0 < w := by omega
        simp only [h1, h2, this, if_true, and_false, if_false]
      · have : 0 < w := by omega
        simp only [h1, h2, this, if_true, if_false, and_self]
    · simp only [h1, if_false, false_and]
  rw [hstep]
  unfold depS
  simp only [hx, hy, hv]
  by_cases hus : u = sn
  · have hus' : J u = J sn := by rw [hus]
    rw [b214_165, gO_m hM, b214_174, if_pos hus', ite_self, hend v _ (by omega)]
    simp only [hus, if_true, Int.add_zero]
  · have hne : ¬ J u = J sn := by rw [J_eq (by omega) (by omega)]; exact hus
    have hl := dp_loop (E := E) (lo := lo) (d := d + 2) (v := v) hM hW hk hu hne hvb W 0 (by omega)
    have hwb := wnS_b dk du k u W
    have hW9 := hW.1
    simp only [wnS, Int.add_zero] at hl
    rw [show J ((0 : Nat) : Int) = J 0 from rfl] at hl
    rw [hl, hend _ _ (by omega)]
    simp only [hus, if_false]
theorem dp_sp (hM : MSh H μ) {base W k : Nat} {S : Nat → Int} {dk du : Nat → Int} {u li r wk al a1 a2 : Int} (hS : SR M base S) (hV : SV S k) (hW : WR M W dk du) (hk : k < 9) (hK : KR M k li r wk al a1 a2) (hu : 0 ≤ u ∧ u < 100) : cl E lo (d + 4) 214 [.ref H, .int (J k), .int (J u)] (mm H μ M) = some (some (.int (J (if aslS W dk du k li r u = true then depS W dk du k u (sinS (aslS W dk du k li r) k u wk li al a1 a2) (S (68 + 9 * k + 0)) (S (68 + 9 * k + 5)) (S (68 + 9 * k + 6)) (S (68 + 9 * k + 7)) else 0))), mm H μ M) := by
  have hK' := hK
  obtain ⟨g1, g2, g3, g4, g5, g6, r1, r2, r3, r4, r5, r6⟩ := hK
  have ha := as_sp (E := E) (lo := lo) (d := d) hM hW hk g2 r2 g1 r1 (u := u) (by omega)
  have c1 : J wk ≤ J li ↔ wk ≤ li := J_le (by omega) (by omega)
  rw [e214]
  simp only [b214_0, b214_6, b214_9, gO_m, hM, ha, Option.bind_some, Option.toList_some, Option.toList_none, List.cons_append, List.nil_append, b2i_J0]
  cases hb : aslS W dk du k li r u with
  | false =>
    have hb' : decide (li ≤ u ∧ u < upS W dk du k r) = false := hb
    simp only [hb', if_true, Bool.false_eq_true, if_false, Jl0]
  | true =>
    have hb' : decide (li ≤ u ∧ u < upS W dk du k r) = true := hb
    simp only [hb', if_true, Bool.true_eq_false, if_false]
    have hs0 : ∀ s0, s0 = (if wk ≤ li then li else wk) → ex PG E lo (d + 3) 214 11 [some (.ref H), some (.int (J k)), some (.int (J u)), none, none, none] [] (mm H μ M) = ex PG E lo (d + 3) 214 41 [some (.ref H), some (.int (J k)), some (.int (J u)), none, none, none] [.int (J s0)] (mm H μ M) := by
      intro s0 hs0
      subst hs0
      simp only [b214_11, b214_26, b214_35, gO_m, gP_m, ri_mm0, wi_mm0, gR_m0, gR_m1, gR_m11, gR_m13, gR_m14, gR_m15, gR_m16, gR_m17, gR_m22, gR_m32, gR_m33, gR_m34, gR_m35, gR_m36, gR_m37, gR_m38, gR_m41, gR_m42, gR_m43, gR_m45, gR_m46, gR_m47, gR_m50, gR_m51, gR_m52, rd_m1, rd_m3, rd_m4, rd_m5, rd_m6, rd_m7, rd_m8, rd_m9, rd_m10, rd_m11, rd_m12, rd_m13, rd_m14, rd_m15, rd_m16, rd_m17, rd_m18, rd_m19, rd_m20, rd_m21, rd_m22, rd_m23, rd_m24, rd_m25, wr_m1, wr_m3, wr_m4, wr_m5, wr_m6, wr_m7, wr_m8, wr_m9, wr_m10, wr_m11, wr_m12, wr_m13, wr_m14, wr_m15, wr_m16, wr_m17, wr_m18, wr_m19, wr_m20, wr_m21, wr_m22, wr_m23, wr_m24, wr_m25, ri_m1, ri_m2, ri_m3, ri_m4, ri_m5, ri_m6, ri_m7, ri_m8, ri_m9, ri_m10, ri_m11, ri_m12, ri_m13, ri_m14, ri_m15, ri_m16, ri_m17, ri_m18, ri_m19, ri_m20, ri_m21, ri_m22, ri_m23, ri_m24, ri_m25, wi_m1, wi_m2, wi_m3, wi_m4, wi_m5, wi_m6, wi_m7, wi_m8, wi_m9, wi_m10, wi_m11, wi_m12, wi_m13, wi_m14, wi_m15, wi_m16, wi_m17, wi_m18, wi_m19, wi_m20, wi_m21, wi_m22, wi_m23, wi_m24, wi_m25, hM, J_aIn (a := (k : Int)) (n := 9) (by omega) (by omega) (by omega), J_nat (n := k) (by omega), if_true, g1, g3, c1]
      by_cases h : wk ≤ li <;> simp only [h, if_true, if_false]
    generalize hs : (if wk ≤ li then li else wk) = s0 at hs0
    have hsb : -1 ≤ s0 ∧ s0 < 100 := by rw [← hs]; split <;> omega
    rw [hs0 s0 rfl, dp_a1 hM hW hk hK' hu hsb]
    generalize hs1 : (if al = k ∧ a1 ≤ u ∧ s0 < a1 ∧ aslS W dk du k li r a1 = true then a1 else s0) = s1
    have hsb1 : -1 ≤ s1 ∧ s1 < 100 := by rw [← hs1]; split <;> omega
    rw [dp_a2 hM hW hk hK' hu hsb1]
    generalize hs2 : (if al = k ∧ a2 ≤ u ∧ s1 < a2 ∧ aslS W dk du k li r a2 = true then a2 else s1) = s2
    have hsb2 : -1 ≤ s2 ∧ s2 < 100 := by rw [← hs2]; split <;> omega
    rw [dp_3 hM hS hV hW hk hu hsb2]
    have e : sinS (aslS W dk du k li r) k u wk li al a1 a2 = s2 := by
      unfold sinS
      simp only [hs, hs1, hs2]
    rw [e]
end REF2
