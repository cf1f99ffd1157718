/-! NUMBERS: an Int32 by an integer; the reference's part of the memory -/
def J (z : Int) : Int32 := Int32.ofInt z
theorem J_toInt {z : Int} (h : -2147483648 ≤ z ∧ z < 2147483648) : (J z).toInt = z := by
  unfold J
  rw [Int32.toInt_ofInt]
  exact Int.bmod_eq_of_le (by rw [show Int32.size = 4294967296 from rfl]; omega) (by rw [show Int32.size = 4294967296 from rfl]; omega)
theorem J_of (x : Int32) : J x.toInt = x := Int32.ofInt_toInt x
theorem J_add (a b : Int) : J a + J b = J (a + b) := (Int32.ofInt_add a b).symm
theorem J_sub (a b : Int) : J a - J b = J (a - b) := (Int32.ofInt_sub a b).symm
theorem J_mul (a b : Int) : J a * J b = J (a * b) := (Int32.ofInt_mul a b).symm
theorem J_lt {a b : Int} (ha : -2147483648 ≤ a ∧ a < 2147483648) (hb : -2147483648 ≤ b ∧ b < 2147483648) : J a < J b ↔ a < b := by
  rw [Int32.lt_iff_toInt_lt, J_toInt ha, J_toInt hb]
theorem J_le {a b : Int} (ha : -2147483648 ≤ a ∧ a < 2147483648) (hb : -2147483648 ≤ b ∧ b < 2147483648) : J a ≤ J b ↔ a ≤ b := by
  rw [Int32.le_iff_toInt_le, J_toInt ha, J_toInt hb]
theorem J_eq {a b : Int} (ha : -2147483648 ≤ a ∧ a < 2147483648) (hb : -2147483648 ≤ b ∧ b < 2147483648) : J a = J b ↔ a = b := by
  constructor
  · intro h
    have := congrArg Int32.toInt h
    rwa [J_toInt ha, J_toInt hb] at this
  · intro h; rw [h]
theorem J_clamp {a : Int} (ha : 0 ≤ a ∧ a < 2147483648) : (J a).toNatClampNeg = a.toNat := by
  show (J a).toInt.toNat = a.toNat
  rw [J_toInt (by omega)]
theorem J_nat {n : Nat} (h : n < 2147483648) : (J (n : Int)).toNatClampNeg = n := by
  rw [J_clamp (by omega)]
  exact Int.toNat_natCast n
theorem J_aIn {a : Int} {n : Nat} (h0 : 0 ≤ a) (h1 : a < n) (h2 : a < 2147483648) : aIn (J a) n = true := by
  unfold aIn
  rw [J_clamp ⟨h0, h2⟩]
  have e : (0 : Int32) ≤ J a := by
    rw [Int32.le_iff_toInt_le, J_toInt (by omega)]
    exact h0
  simp only [e, decide_true, Bool.true_and, decide_eq_true_eq]
  omega
theorem Jl0 : (0 : Int32) = J 0 := by decide
theorem Jl1 : (1 : Int32) = J 1 := by decide
theorem Jl2 : (2 : Int32) = J 2 := by decide
theorem Jl3 : (3 : Int32) = J 3 := by decide
theorem Jl4 : (4 : Int32) = J 4 := by decide
theorem Jl5 : (5 : Int32) = J 5 := by decide
theorem Jl6 : (6 : Int32) = J 6 := by decide
theorem Jl7 : (7 : Int32) = J 7 := by decide
theorem Jl8 : (8 : Int32) = J 8 := by decide
theorem Jl9 : (9 : Int32) = J 9 := by decide
theorem Jl10 : (10 : Int32) = J 10 := by decide
theorem Jl11 : (11 : Int32) = J 11 := by decide
theorem Jl12 : (12 : Int32) = J 12 := by decide
theorem Jl13 : (13 : Int32) = J 13 := by decide
theorem Jl14 : (14 : Int32) = J 14 := by decide
theorem Jl15 : (15 : Int32) = J 15 := by decide
theorem Jl16 : (16 : Int32) = J 16 := by decide
theorem Jl17 : (17 : Int32) = J 17 := by decide
theorem Jl18 : (18 : Int32) = J 18 := by decide
theorem Jl19 : (19 : Int32) = J 19 := by decide
theorem Jl20 : (20 : Int32) = J 20 := by decide
theorem Jl22 : (22 : Int32) = J 22 := by decide
theorem Jl24 : (24 : Int32) = J 24 := by decide
theorem Jl28 : (28 : Int32) = J 28 := by decide
theorem Jl30 : (30 : Int32) = J 30 := by decide
theorem Jl32 : (32 : Int32) = J 32 := by decide
theorem Jl35 : (35 : Int32) = J 35 := by decide
theorem Jl36 : (36 : Int32) = J 36 := by decide
theorem Jl37 : (37 : Int32) = J 37 := by decide
theorem Jl38 : (38 : Int32) = J 38 := by decide
theorem Jl39 : (39 : Int32) = J 39 := by decide
theorem Jl40 : (40 : Int32) = J 40 := by decide
theorem Jl48 : (48 : Int32) = J 48 := by decide
theorem Jl57 : (57 : Int32) = J 57 := by decide
theorem Jl59 : (59 : Int32) = J 59 := by decide
theorem Jl60 : (60 : Int32) = J 60 := by decide
theorem Jl61 : (61 : Int32) = J 61 := by decide
theorem Jl63 : (63 : Int32) = J 63 := by decide
theorem Jl64 : (64 : Int32) = J 64 := by decide
theorem Jl68 : (68 : Int32) = J 68 := by decide
theorem Jl69 : (69 : Int32) = J 69 := by decide
theorem Jl96 : (96 : Int32) = J 96 := by decide
theorem Jl97 : (97 : Int32) = J 97 := by decide
theorem Jl98 : (98 : Int32) = J 98 := by decide
theorem Jl99 : (99 : Int32) = J 99 := by decide
theorem Jl100 : (100 : Int32) = J 100 := by decide
theorem Jl122 : (122 : Int32) = J 122 := by decide
theorem Jl149 : (149 : Int32) = J 149 := by decide
theorem Jl150 : (150 : Int32) = J 150 := by decide
theorem Jl165 : (165 : Int32) = J 165 := by decide
theorem Jl255 : (255 : Int32) = J 255 := by decide
theorem Jl511 : (511 : Int32) = J 511 := by decide
theorem Jl512 : (512 : Int32) = J 512 := by decide
theorem Jl600 : (600 : Int32) = J 600 := by decide
theorem Jl610 : (610 : Int32) = J 610 := by decide
theorem Jl940 : (940 : Int32) = J 940 := by decide
theorem Jl968 : (968 : Int32) = J 968 := by decide
theorem Jl999 : (999 : Int32) = J 999 := by decide
theorem Jl1134 : (1134 : Int32) = J 1134 := by decide
theorem Jl1152 : (1152 : Int32) = J 1152 := by decide
theorem Jl2048 : (2048 : Int32) = J 2048 := by decide
theorem Jl4608 : (4608 : Int32) = J 4608 := by decide
theorem Jl9999 : (9999 : Int32) = J 9999 := by decide
theorem Jl99999 : (99999 : Int32) = J 99999 := by decide
theorem Jl100000 : (100000 : Int32) = J 100000 := by decide
theorem Jl147456 : (147456 : Int32) = J 147456 := by decide
theorem Jl12345 : (12345 : Int32) = J 12345 := by decide
theorem Jl1103515245 : (1103515245 : Int32) = J 1103515245 := by decide
theorem Jl100000000 : (100000000 : Int32) = J 100000000 := by decide
theorem Jlm1 : (-1 : Int32) = J (-1) := by decide
theorem Jlm2 : (-2 : Int32) = J (-2) := by decide
def b2i (b : Bool) : Int := if b then 1 else 0
theorem b2i_01 (b : Bool) : J (b2i b) = 0 ∨ J (b2i b) = 1 := by cases b <;> decide
theorem b2i_0 (b : Bool) : J (b2i b) = 0 ↔ b = false := by cases b <;> decide
/-- the reference's cells (26 from H on), by number and slot -/
def mm (H : Nat) (μ : rM) (M : Nat → Nat → Int32) : rM := (μ.1, fun a j => if H ≤ a ∧ a < H + 26 then M (a - H) j else μ.2.1 a j, μ.2.2)
theorem rk_mm (H : Nat) (μ : rM) (M : Nat → Nat → Int32) (a : Nat) : rk (mm H μ M) a = rk μ a := rfl
theorem rr_mm (H : Nat) (μ : rM) (M : Nat → Nat → Int32) (a j : Nat) : rr (mm H μ M) a j = rr μ a j := rfl
theorem ri_mm (H : Nat) (μ : rM) (M : Nat → Nat → Int32) (c j : Nat) (hc : c < 26) : ri (mm H μ M) (H + c) j = M c j := by
  unfold mm ri
  dsimp only
  rw [if_pos ⟨Nat.le_add_right _ _, Nat.add_lt_add_left hc H⟩, Nat.add_sub_cancel_left]
theorem ri_mm0 (H : Nat) (μ : rM) (M : Nat → Nat → Int32) (j : Nat) : ri (mm H μ M) H j = M 0 j := ri_mm H μ M 0 j (by decide)
theorem wi_mm (H : Nat) (μ : rM) (M : Nat → Nat → Int32) (c j : Nat) (v : Int32) (hc : c < 26) : wi (mm H μ M) (H + c) j v = mm H μ (up2 M c j v) := by
  unfold wi mm
  refine Prod.ext rfl (Prod.ext ?_ rfl)
  funext a i
  unfold up2
  dsimp only
  by_cases h : H ≤ a ∧ a < H + 26
  · rw [if_pos h, if_pos h]
    have e : (a = H + c ∧ i = j) ↔ (a - H = c ∧ i = j) := by omega
    by_cases h2 : a = H + c ∧ i = j
    · rw [if_pos h2, if_pos (e.mp h2)]
    · rw [if_neg h2, if_neg (fun q => h2 (e.mpr q))]
  · rw [if_neg h, if_neg h, if_neg (by omega)]
theorem wi_mm0 (H : Nat) (μ : rM) (M : Nat → Nat → Int32) (j : Nat) (v : Int32) : wi (mm H μ M) H j v = mm H μ (up2 M 0 j v) := wi_mm H μ M 0 j v (by decide)
/-- the reference's shape: its object's arrays -/
def mLs : List (Nat × Nat × Nat × Nat) := [(0, 1, 0, 4608), (1, 2, 2, 3), (11, 3, 0, 165), (13, 4, 0, 9), (14, 5, 0, 9), (15, 6, 0, 9), (16, 7, 0, 9), (17, 8, 0, 9), (22, 9, 0, 9), (32, 10, 0, 9), (33, 11, 0, 9), (34, 12, 0, 9), (35, 13, 0, 9), (36, 14, 0, 9), (37, 15, 0, 9), (38, 16, 0, 9), (41, 17, 0, 9), (42, 18, 0, 9), (43, 19, 0, 9), (45, 20, 0, 147456), (46, 21, 0, 147456), (47, 22, 0, 9), (50, 23, 0, 9), (51, 24, 0, 64), (52, 25, 0, 2048)]
def MSh (H : Nat) (μ : rM) : Prop := rk μ H = some (.inl 12) ∧ ∀ q ∈ mLs, rr μ H q.1 = some (H + q.2.1) ∧ rk μ (H + q.2.1) = some (.inr (q.2.2.1, q.2.2.2))
section MSH
variable {α : Type} {lo H : Nat} {μ : rM} {M : Nat → Nat → Int32}
theorem gO_m (h : MSh H μ) (r : Option α) : gO (mm H μ M) H 12 r = r := if_pos h.1
theorem gP_m (h : MSh H μ) (hl : lo ≤ H) (r : Option α) : gP lo (mm H μ M) H 12 r = r := if_pos ⟨h.1, hl⟩
theorem gR_m (h : MSh H μ) {f c t n : Nat} (hq : (f, c, t, n) ∈ mLs) (g : Nat → Option α) (z : Option α) : gR (rr (mm H μ M) H f) g z = g (H + c) := by
  rw [rr_mm, (h.2 _ hq).1]
  rfl
theorem rdA_m (h : MSh H μ) {f c t n : Nat} (hq : (f, c, t, n) ∈ mLs) (i : Int32) (r : Option α) : rdA (mm H μ M) (H + c) t i r = if aIn i n = true then r else none := by
  unfold rdA
  rw [rk_mm, (h.2 _ hq).2]
  dsimp only
  by_cases hi : aIn i n = true
  · rw [if_pos hi, if_pos ⟨rfl, hi⟩]
  · rw [if_neg hi, if_neg (fun q => hi q.2)]
theorem wrA_m (h : MSh H μ) (hl : lo ≤ H) {f c t n : Nat} (hq : (f, c, t, n) ∈ mLs) (i : Int32) (r : Option α) : wrA lo (mm H μ M) (H + c) t i r = if aIn i n = true then r else none := by
  unfold wrA
  rw [rk_mm, (h.2 _ hq).2]
  dsimp only
  by_cases hi : aIn i n = true
  · rw [if_pos hi, if_pos ⟨rfl, hi, Nat.le_trans hl (Nat.le_add_right _ _)⟩]
  · rw [if_neg hi, if_neg (fun q => hi q.2.1)]
theorem gR_m0 (h : MSh H μ) (g : Nat → Option α) (z : Option α) : gR (rr (mm H μ M) H 0) g z = g (H + 1) := gR_m h (t := 0) (n := 4608) (by decide) g z
theorem rd_m1 (h : MSh H μ) (i : Int32) (r : Option α) : rdA (mm H μ M) (H + 1) 0 i r = if aIn i 4608 = true then r else none := rdA_m h (f := 0) (by decide) i r
theorem wr_m1 (h : MSh H μ) (hl : lo ≤ H) (i : Int32) (r : Option α) : wrA lo (mm H μ M) (H + 1) 0 i r = if aIn i 4608 = true then r else none := wrA_m h hl (f := 0) (by decide) i r
theorem ri_m1 (j : Nat) : ri (mm H μ M) (H + 1) j = M 1 j := ri_mm H μ M 1 j (by decide)
theorem wi_m1 (j : Nat) (v : Int32) : wi (mm H μ M) (H + 1) j v = mm H μ (up2 M 1 j v) := wi_mm H μ M 1 j v (by decide)
theorem gR_m1 (h : MSh H μ) (g : Nat → Option α) (z : Option α) : gR (rr (mm H μ M) H 1) g z = g (H + 2) := gR_m h (t := 2) (n := 3) (by decide) g z
theorem ri_m2 (j : Nat) : ri (mm H μ M) (H + 2) j = M 2 j := ri_mm H μ M 2 j (by decide)
theorem wi_m2 (j : Nat) (v : Int32) : wi (mm H μ M) (H + 2) j v = mm H μ (up2 M 2 j v) := wi_mm H μ M 2 j v (by decide)
theorem gR_m11 (h : MSh H μ) (g : Nat → Option α) (z : Option α) : gR (rr (mm H μ M) H 11) g z = g (H + 3) := gR_m h (t := 0) (n := 165) (by decide) g z
theorem rd_m3 (h : MSh H μ) (i : Int32) (r : Option α) : rdA (mm H μ M) (H + 3) 0 i r = if aIn i 165 = true then r else none := rdA_m h (f := 11) (by decide) i r
theorem wr_m3 (h : MSh H μ) (hl : lo ≤ H) (i : Int32) (r : Option α) : wrA lo (mm H μ M) (H + 3) 0 i r = if aIn i 165 = true then r else none := wrA_m h hl (f := 11) (by decide) i r
theorem ri_m3 (j : Nat) : ri (mm H μ M) (H + 3) j = M 3 j := ri_mm H μ M 3 j (by decide)
theorem wi_m3 (j : Nat) (v : Int32) : wi (mm H μ M) (H + 3) j v = mm H μ (up2 M 3 j v) := wi_mm H μ M 3 j v (by decide)
theorem gR_m13 (h : MSh H μ) (g : Nat → Option α) (z : Option α) : gR (rr (mm H μ M) H 13) g z = g (H + 4) := gR_m h (t := 0) (n := 9) (by decide) g z
theorem rd_m4 (h : MSh H μ) (i : Int32) (r : Option α) : rdA (mm H μ M) (H + 4) 0 i r = if aIn i 9 = true then r else none := rdA_m h (f := 13) (by decide) i r
theorem wr_m4 (h : MSh H μ) (hl : lo ≤ H) (i : Int32) (r : Option α) : wrA lo (mm H μ M) (H + 4) 0 i r = if aIn i 9 = true then r else none := wrA_m h hl (f := 13) (by decide) i r
theorem ri_m4 (j : Nat) : ri (mm H μ M) (H + 4) j = M 4 j := ri_mm H μ M 4 j (by decide)
theorem wi_m4 (j : Nat) (v : Int32) : wi (mm H μ M) (H + 4) j v = mm H μ (up2 M 4 j v) := wi_mm H μ M 4 j v (by decide)
theorem gR_m14 (h : MSh H μ) (g : Nat → Option α) (z : Option α) : gR (rr (mm H μ M) H 14) g z = g (H + 5) := gR_m h (t := 0) (n := 9) (by decide) g z
theorem rd_m5 (h : MSh H μ) (i : Int32) (r : Option α) : rdA (mm H μ M) (H + 5) 0 i r = if aIn i 9 = true then r else none := rdA_m h (f := 14) (by decide) i r
theorem wr_m5 (h : MSh H μ) (hl : lo ≤ H) (i : Int32) (r : Option α) : wrA lo (mm H μ M) (H + 5) 0 i r = if aIn i 9 = true then r else none := wrA_m h hl (f := 14) (by decide) i r
theorem ri_m5 (j : Nat) : ri (mm H μ M) (H + 5) j = M 5 j := ri_mm H μ M 5 j (by decide)
theorem wi_m5 (j : Nat) (v : Int32) : wi (mm H μ M) (H + 5) j v = mm H μ (up2 M 5 j v) := wi_mm H μ M 5 j v (by decide)
theorem gR_m15 (h : MSh H μ) (g : Nat → Option α) (z : Option α) : gR (rr (mm H μ M) H 15) g z = g (H + 6) := gR_m h (t := 0) (n := 9) (by decide) g z
theorem rd_m6 (h : MSh H μ) (i : Int32) (r : Option α) : rdA (mm H μ M) (H + 6) 0 i r = if aIn i 9 = true then r else none := rdA_m h (f := 15) (by decide) i r
theorem wr_m6 (h : MSh H μ) (hl : lo ≤ H) (i : Int32) (r : Option α) : wrA lo (mm H μ M) (H + 6) 0 i r = if aIn i 9 = true then r else none := wrA_m h hl (f := 15) (by decide) i r
theorem ri_m6 (j : Nat) : ri (mm H μ M) (H + 6) j = M 6 j := ri_mm H μ M 6 j (by decide)
theorem wi_m6 (j : Nat) (v : Int32) : wi (mm H μ M) (H + 6) j v = mm H μ (up2 M 6 j v) := wi_mm H μ M 6 j v (by decide)
theorem gR_m16 (h : MSh H μ) (g : Nat → Option α) (z : Option α) : gR (rr (mm H μ M) H 16) g z = g (H + 7) := gR_m h (t := 0) (n := 9) (by decide) g z
theorem rd_m7 (h : MSh H μ) (i : Int32) (r : Option α) : rdA (mm H μ M) (H + 7) 0 i r = if aIn i 9 = true then r else none := rdA_m h (f := 16) (by decide) i r
theorem wr_m7 (h : MSh H μ) (hl : lo ≤ H) (i : Int32) (r : Option α) : wrA lo (mm H μ M) (H + 7) 0 i r = if aIn i 9 = true then r else none := wrA_m h hl (f := 16) (by decide) i r
theorem ri_m7 (j : Nat) : ri (mm H μ M) (H + 7) j = M 7 j := ri_mm H μ M 7 j (by decide)
theorem wi_m7 (j : Nat) (v : Int32) : wi (mm H μ M) (H + 7) j v = mm H μ (up2 M 7 j v) := wi_mm H μ M 7 j v (by decide)
theorem gR_m17 (h : MSh H μ) (g : Nat → Option α) (z : Option α) : gR (rr (mm H μ M) H 17) g z = g (H + 8) := gR_m h (t := 0) (n := 9) (by decide) g z
theorem rd_m8 (h : MSh H μ) (i : Int32) (r : Option α) : rdA (mm H μ M) (H + 8) 0 i r = if aIn i 9 = true then r else none := rdA_m h (f := 17) (by decide) i r
theorem wr_m8 (h : MSh H μ) (hl : lo ≤ H) (i : Int32) (r : Option α) : wrA lo (mm H μ M) (H + 8) 0 i r = if aIn i 9 = true then r else none := wrA_m h hl (f := 17) (by decide) i r
theorem ri_m8 (j : Nat) : ri (mm H μ M) (H + 8) j = M 8 j := ri_mm H μ M 8 j (by decide)
theorem wi_m8 (j : Nat) (v : Int32) : wi (mm H μ M) (H + 8) j v = mm H μ (up2 M 8 j v) := wi_mm H μ M 8 j v (by decide)
theorem gR_m22 (h : MSh H μ) (g : Nat → Option α) (z : Option α) : gR (rr (mm H μ M) H 22) g z = g (H + 9) := gR_m h (t := 0) (n := 9) (by decide) g z
theorem rd_m9 (h : MSh H μ) (i : Int32) (r : Option α) : rdA (mm H μ M) (H + 9) 0 i r = if aIn i 9 = true then r else none := rdA_m h (f := 22) (by decide) i r
theorem wr_m9 (h : MSh H μ) (hl : lo ≤ H) (i : Int32) (r : Option α) : wrA lo (mm H μ M) (H + 9) 0 i r = if aIn i 9 = true then r else none := wrA_m h hl (f := 22) (by decide) i r
theorem ri_m9 (j : Nat) : ri (mm H μ M) (H + 9) j = M 9 j := ri_mm H μ M 9 j (by decide)
theorem wi_m9 (j : Nat) (v : Int32) : wi (mm H μ M) (H + 9) j v = mm H μ (up2 M 9 j v) := wi_mm H μ M 9 j v (by decide)
theorem gR_m32 (h : MSh H μ) (g : Nat → Option α) (z : Option α) : gR (rr (mm H μ M) H 32) g z = g (H + 10) := gR_m h (t := 0) (n := 9) (by decide) g z
theorem rd_m10 (h : MSh H μ) (i : Int32) (r : Option α) : rdA (mm H μ M) (H + 10) 0 i r = if aIn i 9 = true then r else none := rdA_m h (f := 32) (by decide) i r
theorem wr_m10 (h : MSh H μ) (hl : lo ≤ H) (i : Int32) (r : Option α) : wrA lo (mm H μ M) (H + 10) 0 i r = if aIn i 9 = true then r else none := wrA_m h hl (f := 32) (by decide) i r
theorem ri_m10 (j : Nat) : ri (mm H μ M) (H + 10) j = M 10 j := ri_mm H μ M 10 j (by decide)
theorem wi_m10 (j : Nat) (v : Int32) : wi (mm H μ M) (H + 10) j v = mm H μ (up2 M 10 j v) := wi_mm H μ M 10 j v (by decide)
theorem gR_m33 (h : MSh H μ) (g : Nat → Option α) (z : Option α) : gR (rr (mm H μ M) H 33) g z = g (H + 11) := gR_m h (t := 0) (n := 9) (by decide) g z
theorem rd_m11 (h : MSh H μ) (i : Int32) (r : Option α) : rdA (mm H μ M) (H + 11) 0 i r = if aIn i 9 = true then r else none := rdA_m h (f := 33) (by decide) i r
theorem wr_m11 (h : MSh H μ) (hl : lo ≤ H) (i : Int32) (r : Option α) : wrA lo (mm H μ M) (H + 11) 0 i r = if aIn i 9 = true then r else none := wrA_m h hl (f := 33) (by decide) i r
theorem ri_m11 (j : Nat) : ri (mm H μ M) (H + 11) j = M 11 j := ri_mm H μ M 11 j (by decide)
theorem wi_m11 (j : Nat) (v : Int32) : wi (mm H μ M) (H + 11) j v = mm H μ (up2 M 11 j v) := wi_mm H μ M 11 j v (by decide)
theorem gR_m34 (h : MSh H μ) (g : Nat → Option α) (z : Option α) : gR (rr (mm H μ M) H 34) g z = g (H + 12) := gR_m h (t := 0) (n := 9) (by decide) g z
theorem rd_m12 (h : MSh H μ) (i : Int32) (r : Option α) : rdA (mm H μ M) (H + 12) 0 i r = if aIn i 9 = true then r else none := rdA_m h (f := 34) (by decide) i r
theorem wr_m12 (h : MSh H μ) (hl : lo ≤ H) (i : Int32) (r : Option α) : wrA lo (mm H μ M) (H + 12) 0 i r = if aIn i 9 = true then r else none := wrA_m h hl (f := 34) (by decide) i r
theorem ri_m12 (j : Nat) : ri (mm H μ M) (H + 12) j = M 12 j := ri_mm H μ M 12 j (by decide)
theorem wi_m12 (j : Nat) (v : Int32) : wi (mm H μ M) (H + 12) j v = mm H μ (up2 M 12 j v) := wi_mm H μ M 12 j v (by decide)
theorem gR_m35 (h : MSh H μ) (g : Nat → Option α) (z : Option α) : gR (rr (mm H μ M) H 35) g z = g (H + 13) := gR_m h (t := 0) (n := 9) (by decide) g z
theorem rd_m13 (h : MSh H μ) (i : Int32) (r : Option α) : rdA (mm H μ M) (H + 13) 0 i r = if aIn i 9 = true then r else none := rdA_m h (f := 35) (by decide) i r
theorem wr_m13 (h : MSh H μ) (hl : lo ≤ H) (i : Int32) (r : Option α) : wrA lo (mm H μ M) (H + 13) 0 i r = if aIn i 9 = true then r else none := wrA_m h hl (f := 35) (by decide) i r
theorem ri_m13 (j : Nat) : ri (mm H μ M) (H + 13) j = M 13 j := ri_mm H μ M 13 j (by decide)
theorem wi_m13 (j : Nat) (v : Int32) : wi (mm H μ M) (H + 13) j v = mm H μ (up2 M 13 j v) := wi_mm H μ M 13 j v (by decide)
theorem gR_m36 (h : MSh H μ) (g : Nat → Option α) (z : Option α) : gR (rr (mm H μ M) H 36) g z = g (H + 14) := gR_m h (t := 0) (n := 9) (by decide) g z
theorem rd_m14 (h : MSh H μ) (i : Int32) (r : Option α) : rdA (mm H μ M) (H + 14) 0 i r = if aIn i 9 = true then r else none := rdA_m h (f := 36) (by decide) i r
theorem wr_m14 (h : MSh H μ) (hl : lo ≤ H) (i : Int32) (r : Option α) : wrA lo (mm H μ M) (H + 14) 0 i r = if aIn i 9 = true then r else none := wrA_m h hl (f := 36) (by decide) i r
theorem ri_m14 (j : Nat) : ri (mm H μ M) (H + 14) j = M 14 j := ri_mm H μ M 14 j (by decide)
theorem wi_m14 (j : Nat) (v : Int32) : wi (mm H μ M) (H + 14) j v = mm H μ (up2 M 14 j v) := wi_mm H μ M 14 j v (by decide)
theorem gR_m37 (h : MSh H μ) (g : Nat → Option α) (z : Option α) : gR (rr (mm H μ M) H 37) g z = g (H + 15) := gR_m h (t := 0) (n := 9) (by decide) g z
theorem rd_m15 (h : MSh H μ) (i : Int32) (r : Option α) : rdA (mm H μ M) (H + 15) 0 i r = if aIn i 9 = true then r else none := rdA_m h (f := 37) (by decide) i r
theorem wr_m15 (h : MSh H μ) (hl : lo ≤ H) (i : Int32) (r : Option α) : wrA lo (mm H μ M) (H + 15) 0 i r = if aIn i 9 = true then r else none := wrA_m h hl (f := 37) (by decide) i r
theorem ri_m15 (j : Nat) : ri (mm H μ M) (H + 15) j = M 15 j := ri_mm H μ M 15 j (by decide)
theorem wi_m15 (j : Nat) (v : Int32) : wi (mm H μ M) (H + 15) j v = mm H μ (up2 M 15 j v) := wi_mm H μ M 15 j v (by decide)
theorem gR_m38 (h : MSh H μ) (g : Nat → Option α) (z : Option α) : gR (rr (mm H μ M) H 38) g z = g (H + 16) := gR_m h (t := 0) (n := 9) (by decide) g z
theorem rd_m16 (h : MSh H μ) (i : Int32) (r : Option α) : rdA (mm H μ M) (H + 16) 0 i r = if aIn i 9 = true then r else none := rdA_m h (f := 38) (by decide) i r
theorem wr_m16 (h : MSh H μ) (hl : lo ≤ H) (i : Int32) (r : Option α) : wrA lo (mm H μ M) (H + 16) 0 i r = if aIn i 9 = true then r else none := wrA_m h hl (f := 38) (by decide) i r
theorem ri_m16 (j : Nat) : ri (mm H μ M) (H + 16) j = M 16 j := ri_mm H μ M 16 j (by decide)
theorem wi_m16 (j : Nat) (v : Int32) : wi (mm H μ M) (H + 16) j v = mm H μ (up2 M 16 j v) := wi_mm H μ M 16 j v (by decide)
theorem gR_m41 (h : MSh H μ) (g : Nat → Option α) (z : Option α) : gR (rr (mm H μ M) H 41) g z = g (H + 17) := gR_m h (t := 0) (n := 9) (by decide) g z
theorem rd_m17 (h : MSh H μ) (i : Int32) (r : Option α) : rdA (mm H μ M) (H + 17) 0 i r = if aIn i 9 = true then r else none := rdA_m h (f := 41) (by decide) i r
theorem wr_m17 (h : MSh H μ) (hl : lo ≤ H) (i : Int32) (r : Option α) : wrA lo (mm H μ M) (H + 17) 0 i r = if aIn i 9 = true then r else none := wrA_m h hl (f := 41) (by decide) i r
theorem ri_m17 (j : Nat) : ri (mm H μ M) (H + 17) j = M 17 j := ri_mm H μ M 17 j (by decide)
theorem wi_m17 (j : Nat) (v : Int32) : wi (mm H μ M) (H + 17) j v = mm H μ (up2 M 17 j v) := wi_mm H μ M 17 j v (by decide)
theorem gR_m42 (h : MSh H μ) (g : Nat → Option α) (z : Option α) : gR (rr (mm H μ M) H 42) g z = g (H + 18) := gR_m h (t := 0) (n := 9) (by decide) g z
theorem rd_m18 (h : MSh H μ) (i : Int32) (r : Option α) : rdA (mm H μ M) (H + 18) 0 i r = if aIn i 9 = true then r else none := rdA_m h (f := 42) (by decide) i r
theorem wr_m18 (h : MSh H μ) (hl : lo ≤ H) (i : Int32) (r : Option α) : wrA lo (mm H μ M) (H + 18) 0 i r = if aIn i 9 = true then r else none := wrA_m h hl (f := 42) (by decide) i r
theorem ri_m18 (j : Nat) : ri (mm H μ M) (H + 18) j = M 18 j := ri_mm H μ M 18 j (by decide)
theorem wi_m18 (j : Nat) (v : Int32) : wi (mm H μ M) (H + 18) j v = mm H μ (up2 M 18 j v) := wi_mm H μ M 18 j v (by decide)
theorem gR_m43 (h : MSh H μ) (g : Nat → Option α) (z : Option α) : gR (rr (mm H μ M) H 43) g z = g (H + 19) := gR_m h (t := 0) (n := 9) (by decide) g z
theorem rd_m19 (h : MSh H μ) (i : Int32) (r : Option α) : rdA (mm H μ M) (H + 19) 0 i r = if aIn i 9 = true then r else none := rdA_m h (f := 43) (by decide) i r
theorem wr_m19 (h : MSh H μ) (hl : lo ≤ H) (i : Int32) (r : Option α) : wrA lo (mm H μ M) (H + 19) 0 i r = if aIn i 9 = true then r else none := wrA_m h hl (f := 43) (by decide) i r
theorem ri_m19 (j : Nat) : ri (mm H μ M) (H + 19) j = M 19 j := ri_mm H μ M 19 j (by decide)
theorem wi_m19 (j : Nat) (v : Int32) : wi (mm H μ M) (H + 19) j v = mm H μ (up2 M 19 j v) := wi_mm H μ M 19 j v (by decide)
theorem gR_m45 (h : MSh H μ) (g : Nat → Option α) (z : Option α) : gR (rr (mm H μ M) H 45) g z = g (H + 20) := gR_m h (t := 0) (n := 147456) (by decide) g z
theorem rd_m20 (h : MSh H μ) (i : Int32) (r : Option α) : rdA (mm H μ M) (H + 20) 0 i r = if aIn i 147456 = true then r else none := rdA_m h (f := 45) (by decide) i r
theorem wr_m20 (h : MSh H μ) (hl : lo ≤ H) (i : Int32) (r : Option α) : wrA lo (mm H μ M) (H + 20) 0 i r = if aIn i 147456 = true then r else none := wrA_m h hl (f := 45) (by decide) i r
theorem ri_m20 (j : Nat) : ri (mm H μ M) (H + 20) j = M 20 j := ri_mm H μ M 20 j (by decide)
theorem wi_m20 (j : Nat) (v : Int32) : wi (mm H μ M) (H + 20) j v = mm H μ (up2 M 20 j v) := wi_mm H μ M 20 j v (by decide)
theorem gR_m46 (h : MSh H μ) (g : Nat → Option α) (z : Option α) : gR (rr (mm H μ M) H 46) g z = g (H + 21) := gR_m h (t := 0) (n := 147456) (by decide) g z
theorem rd_m21 (h : MSh H μ) (i : Int32) (r : Option α) : rdA (mm H μ M) (H + 21) 0 i r = if aIn i 147456 = true then r else none := rdA_m h (f := 46) (by decide) i r
theorem wr_m21 (h : MSh H μ) (hl : lo ≤ H) (i : Int32) (r : Option α) : wrA lo (mm H μ M) (H + 21) 0 i r = if aIn i 147456 = true then r else none := wrA_m h hl (f := 46) (by decide) i r
theorem ri_m21 (j : Nat) : ri (mm H μ M) (H + 21) j = M 21 j := ri_mm H μ M 21 j (by decide)
theorem wi_m21 (j : Nat) (v : Int32) : wi (mm H μ M) (H + 21) j v = mm H μ (up2 M 21 j v) := wi_mm H μ M 21 j v (by decide)
theorem gR_m47 (h : MSh H μ) (g : Nat → Option α) (z : Option α) : gR (rr (mm H μ M) H 47) g z = g (H + 22) := gR_m h (t := 0) (n := 9) (by decide) g z
theorem rd_m22 (h : MSh H μ) (i : Int32) (r : Option α) : rdA (mm H μ M) (H + 22) 0 i r = if aIn i 9 = true then r else none := rdA_m h (f := 47) (by decide) i r
theorem wr_m22 (h : MSh H μ) (hl : lo ≤ H) (i : Int32) (r : Option α) : wrA lo (mm H μ M) (H + 22) 0 i r = if aIn i 9 = true then r else none := wrA_m h hl (f := 47) (by decide) i r
theorem ri_m22 (j : Nat) : ri (mm H μ M) (H + 22) j = M 22 j := ri_mm H μ M 22 j (by decide)
theorem wi_m22 (j : Nat) (v : Int32) : wi (mm H μ M) (H + 22) j v = mm H μ (up2 M 22 j v) := wi_mm H μ M 22 j v (by decide)
theorem gR_m50 (h : MSh H μ) (g : Nat → Option α) (z : Option α) : gR (rr (mm H μ M) H 50) g z = g (H + 23) := gR_m h (t := 0) (n := 9) (by decide) g z
theorem rd_m23 (h : MSh H μ) (i : Int32) (r : Option α) : rdA (mm H μ M) (H + 23) 0 i r = if aIn i 9 = true then r else none := rdA_m h (f := 50) (by decide) i r
theorem wr_m23 (h : MSh H μ) (hl : lo ≤ H) (i : Int32) (r : Option α) : wrA lo (mm H μ M) (H + 23) 0 i r = if aIn i 9 = true then r else none := wrA_m h hl (f := 50) (by decide) i r
theorem ri_m23 (j : Nat) : ri (mm H μ M) (H + 23) j = M 23 j := ri_mm H μ M 23 j (by decide)
theorem wi_m23 (j : Nat) (v : Int32) : wi (mm H μ M) (H + 23) j v = mm H μ (up2 M 23 j v) := wi_mm H μ M 23 j v (by decide)
theorem gR_m51 (h : MSh H μ) (g : Nat → Option α) (z : Option α) : gR (rr (mm H μ M) H 51) g z = g (H + 24) := gR_m h (t := 0) (n := 64) (by decide) g z
theorem rd_m24 (h : MSh H μ) (i : Int32) (r : Option α) : rdA (mm H μ M) (H + 24) 0 i r = if aIn i 64 = true then r else none := rdA_m h (f := 51) (by decide) i r
theorem wr_m24 (h : MSh H μ) (hl : lo ≤ H) (i : Int32) (r : Option α) : wrA lo (mm H μ M) (H + 24) 0 i r = if aIn i 64 = true then r else none := wrA_m h hl (f := 51) (by decide) i r
theorem ri_m24 (j : Nat) : ri (mm H μ M) (H + 24) j = M 24 j := ri_mm H μ M 24 j (by decide)
theorem wi_m24 (j : Nat) (v : Int32) : wi (mm H μ M) (H + 24) j v = mm H μ (up2 M 24 j v) := wi_mm H μ M 24 j v (by decide)
theorem gR_m52 (h : MSh H μ) (g : Nat → Option α) (z : Option α) : gR (rr (mm H μ M) H 52) g z = g (H + 25) := gR_m h (t := 0) (n := 2048) (by decide) g z
theorem rd_m25 (h : MSh H μ) (i : Int32) (r : Option α) : rdA (mm H μ M) (H + 25) 0 i r = if aIn i 2048 = true then r else none := rdA_m h (f := 52) (by decide) i r
theorem wr_m25 (h : MSh H μ) (hl : lo ≤ H) (i : Int32) (r : Option α) : wrA lo (mm H μ M) (H + 25) 0 i r = if aIn i 2048 = true then r else none := wrA_m h hl (f := 52) (by decide) i r
theorem ri_m25 (j : Nat) : ri (mm H μ M) (H + 25) j = M 25 j := ri_mm H μ M 25 j (by decide)
theorem wi_m25 (j : Nat) (v : Int32) : wi (mm H μ M) (H + 25) j v = mm H μ (up2 M 25 j v) := wi_mm H μ M 25 j v (by decide)
end MSH
