/-! THE CLASS AND THE REFERENCE, as their constructors leave them: kinds and links by address (by program) -/
def kdC : List (Nat × Nat × Nat × Nat) := [(0, 0, 11, 0), (1, 0, 8, 0), (2, 1, 1, 600), (3, 1, 0, 4), (4, 1, 11, 2), (5, 1, 5, 2), (6, 1, 9, 2), (7, 1, 4, 2), (8, 0, 7, 0), (9, 1, 0, 64), (10, 1, 0, 9), (11, 1, 0, 9), (12, 1, 0, 9), (13, 1, 0, 9), (14, 1, 0, 9), (15, 1, 0, 9), (16, 1, 0, 9), (17, 1, 0, 9), (18, 1, 0, 9), (19, 1, 0, 9), (20, 1, 0, 9), (21, 0, 1, 0), (22, 1, 0, 9), (23, 0, 5, 0), (24, 1, 0, 40), (25, 1, 0, 40), (26, 0, 0, 0), (27, 1, 0, 8), (28, 0, 7, 0), (29, 1, 0, 64), (30, 1, 0, 9), (31, 1, 0, 9), (32, 1, 0, 9), (33, 1, 0, 9), (34, 1, 0, 9), (35, 1, 0, 9), (36, 1, 0, 9), (37, 1, 0, 9), (38, 1, 0, 9), (39, 1, 0, 9), (40, 1, 0, 9), (41, 0, 1, 0), (42, 1, 0, 9), (43, 0, 5, 0), (44, 1, 0, 40), (45, 1, 0, 40), (46, 0, 0, 0), (47, 1, 0, 8), (48, 1, 12, 3), (49, 0, 6, 0), (50, 1, 0, 6), (51, 0, 7, 0), (52, 1, 0, 64), (53, 1, 0, 9), (54, 1, 0, 9), (55, 1, 0, 9), (56, 1, 0, 9), (57, 1, 0, 9), (58, 1, 0, 9), (59, 1, 0, 9), (60, 1, 0, 9), (61, 1, 0, 9), (62, 1, 0, 9), (63, 1, 0, 9), (64, 0, 1, 0), (65, 1, 0, 9), (66, 0, 5, 0), (67, 1, 0, 40), (68, 1, 0, 40), (69, 0, 0, 0), (70, 1, 0, 8), (71, 0, 4, 0), (72, 0, 1, 0), (73, 1, 0, 9), (74, 0, 9, 0), (75, 1, 0, 36), (76, 1, 0, 36), (77, 1, 0, 36), (78, 1, 0, 36), (79, 0, 9, 0), (80, 1, 0, 36), (81, 1, 0, 36), (82, 1, 0, 36), (83, 1, 0, 36), (84, 0, 2, 0), (85, 0, 7, 0), (86, 1, 0, 64), (87, 1, 0, 9), (88, 1, 0, 9), (89, 1, 0, 9), (90, 1, 0, 9), (91, 1, 0, 9), (92, 1, 0, 9), (93, 1, 0, 9), (94, 1, 0, 9), (95, 1, 0, 9), (96, 1, 0, 9), (97, 1, 0, 9), (98, 1, 0, 324), (99, 1, 0, 9), (100, 1, 0, 9), (101, 1, 0, 4), (102, 0, 3, 0), (103, 0, 7, 0), (104, 1, 0, 64), (105, 1, 0, 9), (106, 1, 0, 9), (107, 1, 0, 9), (108, 1, 0, 9), (109, 1, 0, 9), (110, 1, 0, 9), (111, 1, 0, 9), (112, 1, 0, 9), (113, 1, 0, 9), (114, 1, 0, 9), (115, 1, 0, 9), (116, 1, 0, 9), (117, 1, 0, 9), (118, 1, 0, 9), (119, 1, 0, 1800), (120, 1, 0, 5), (121, 1, 0, 36), (122, 0, 10, 0), (123, 1, 0, 8), (124, 0, 7, 0), (125, 1, 0, 64), (126, 1, 0, 9), (127, 1, 0, 9), (128, 1, 0, 9), (129, 1, 0, 9), (130, 1, 0, 9), (131, 1, 0, 9), (132, 1, 0, 9), (133, 1, 0, 9), (134, 1, 0, 9), (135, 1, 0, 9), (136, 1, 0, 9), (137, 1, 0, 8), (138, 1, 0, 288), (139, 1, 0, 8), (140, 1, 0, 288), (141, 1, 3, 288), (142, 1, 3, 288), (143, 1, 3, 288), (144, 1, 0, 64), (145, 1, 0, 2048), (146, 0, 12, 0), (147, 1, 0, 4608), (148, 1, 2, 3), (149, 1, 0, 165), (150, 1, 0, 9), (151, 1, 0, 9), (152, 1, 0, 9), (153, 1, 0, 9), (154, 1, 0, 9), (155, 1, 0, 9), (156, 1, 0, 9), (157, 1, 0, 9), (158, 1, 0, 9), (159, 1, 0, 9), (160, 1, 0, 9), (161, 1, 0, 9), (162, 1, 0, 9), (163, 1, 0, 9), (164, 1, 0, 9), (165, 1, 0, 9), (166, 1, 0, 147456), (167, 1, 0, 147456), (168, 1, 0, 9), (169, 1, 0, 9), (170, 1, 0, 64), (171, 1, 0, 2048)]
def kdV (q : Nat × Nat × Nat) : rKd := if q.1 = 0 then .inl q.2.1 else .inr (q.2.1, q.2.2)
def rfC : List (Nat × Nat × Nat) := [(0, 0, 1), (0, 1, 48), (0, 2, 49), (0, 3, 72), (0, 4, 74), (0, 5, 79), (0, 6, 84), (0, 7, 102), (0, 8, 122), (1, 0, 2), (1, 4, 3), (1, 5, 4), (1, 6, 5), (1, 7, 6), (1, 8, 7), (4, 0, 8), (4, 1, 28), (5, 0, 21), (5, 1, 41), (6, 0, 23), (6, 1, 43), (7, 0, 26), (7, 1, 46), (8, 2, 9), (8, 4, 10), (8, 5, 11), (8, 6, 12), (8, 7, 13), (8, 8, 14), (8, 9, 15), (8, 10, 16), (8, 11, 17), (8, 12, 18), (8, 14, 19), (8, 15, 20), (21, 5, 22), (23, 3, 24), (23, 4, 25), (26, 1, 27), (28, 2, 29), (28, 4, 30), (28, 5, 31), (28, 6, 32), (28, 7, 33), (28, 8, 34), (28, 9, 35), (28, 10, 36), (28, 11, 37), (28, 12, 38), (28, 14, 39), (28, 15, 40), (41, 5, 42), (43, 3, 44), (43, 4, 45), (46, 1, 47), (49, 0, 71), (49, 1, 50), (49, 2, 51), (49, 3, 64), (49, 4, 66), (49, 5, 69), (51, 2, 52), (51, 4, 53), (51, 5, 54), (51, 6, 55), (51, 7, 56), (51, 8, 57), (51, 9, 58), (51, 10, 59), (51, 11, 60), (51, 12, 61), (51, 14, 62), (51, 15, 63), (64, 5, 65), (66, 3, 67), (66, 4, 68), (69, 1, 70), (71, 0, 2), (72, 5, 73), (74, 3, 75), (74, 4, 76), (74, 5, 77), (74, 6, 78), (79, 3, 80), (79, 4, 81), (79, 5, 82), (79, 6, 83), (84, 3, 98), (84, 4, 99), (84, 5, 100), (84, 6, 101), (85, 2, 86), (85, 4, 87), (85, 5, 88), (85, 6, 89), (85, 7, 90), (85, 8, 91), (85, 9, 92), (85, 10, 93), (85, 11, 94), (85, 12, 95), (85, 14, 96), (85, 15, 97), (102, 0, 84), (102, 1, 103), (102, 4, 116), (102, 6, 117), (102, 7, 118), (102, 8, 119), (102, 9, 120), (102, 10, 121), (103, 2, 104), (103, 4, 105), (103, 5, 106), (103, 6, 107), (103, 7, 108), (103, 8, 109), (103, 9, 110), (103, 10, 111), (103, 11, 112), (103, 12, 113), (103, 14, 114), (103, 15, 115), (122, 2, 123), (122, 4, 137), (122, 5, 138), (122, 6, 139), (122, 7, 140), (122, 10, 143), (122, 11, 144), (122, 12, 145), (124, 2, 125), (124, 4, 126), (124, 5, 127), (124, 6, 128), (124, 7, 129), (124, 8, 130), (124, 9, 131), (124, 10, 132), (124, 11, 133), (124, 12, 134), (124, 14, 135), (124, 15, 136), (146, 0, 147), (146, 1, 148), (146, 11, 149), (146, 13, 150), (146, 14, 151), (146, 15, 152), (146, 16, 153), (146, 17, 154), (146, 22, 155), (146, 32, 156), (146, 33, 157), (146, 34, 158), (146, 35, 159), (146, 36, 160), (146, 37, 161), (146, 38, 162), (146, 41, 163), (146, 42, 164), (146, 43, 165), (146, 45, 166), (146, 46, 167), (146, 47, 168), (146, 50, 169), (146, 51, 170), (146, 52, 171)]
/-- the two rows of ways, in either order -/
def WN (μ : rM) (lo : Nat) : Prop := (rr μ (lo + 122) 8 = some (lo + 141) ∧ rr μ (lo + 122) 9 = some (lo + 142)) ∨ (rr μ (lo + 122) 8 = some (lo + 142) ∧ rr μ (lo + 122) 9 = some (lo + 141))
def CO (μ : rM) (lo : Nat) : Prop := (∀ q ∈ kdC, rk μ (lo + q.1) = some (kdV q.2)) ∧ (∀ q ∈ rfC, rr μ (lo + q.1) q.2.1 = some (lo + q.2.2)) ∧ WN μ lo
/-- what of the links a query may change -/
def vaR (lo a f : Nat) : Prop := (a = lo + 84 ∧ f < 3) ∨ (a = lo + 122 ∧ (f = 3 ∨ f = 8 ∨ f = 9))
theorem rfC_v : ∀ q ∈ rfC, ¬ ((q.1 = 84 ∧ q.2.1 < 3) ∨ (q.1 = 122 ∧ (q.2.1 = 3 ∨ q.2.1 = 8 ∨ q.2.1 = 9))) := by decide +kernel
section CLASS
variable {lo : Nat} {μ μ' : rM}
theorem CO_fr (h : CO μ lo) (hk : rk μ' = rk μ) (hr : ∀ a f, ¬ vaR lo a f → rr μ' a f = rr μ a f) (hw : WN μ' lo) : CO μ' lo := by
  refine ⟨fun q hq => by rw [hk]; exact h.1 q hq, fun q hq => ?_, hw⟩
  rw [hr _ _ (fun z => rfC_v q hq (by unfold vaR at z; omega))]
  exact h.2.1 q hq
theorem CO_sh {c a : Nat} {l : List (Nat × Nat × Nat × Nat)} (h : CO μ lo) (hk : (a, 0, c, 0) ∈ kdC) (hl : ∀ q ∈ l, (a, q.1, a + q.2.1) ∈ rfC ∧ (a + q.2.1, 1, q.2.2.1, q.2.2.2) ∈ kdC) : rk μ (lo + a) = some (.inl c) ∧ ∀ q ∈ l, rr μ (lo + a) q.1 = some (lo + a + q.2.1) ∧ rk μ (lo + a + q.2.1) = some (.inr (q.2.2.1, q.2.2.2)) := ⟨h.1 (a, 0, c, 0) hk, fun q hq => ⟨by rw [Nat.add_assoc]; exact h.2.1 (a, q.1, a + q.2.1) (hl q hq).1, by rw [Nat.add_assoc]; exact h.1 (a + q.2.1, 1, q.2.2.1, q.2.2.2) (hl q hq).2⟩⟩
theorem CO.D1 (h : CO μ lo) : ShD μ (lo + 1) := CO_sh h (by decide +kernel) (by decide +kernel)
theorem CO.S8 (h : CO μ lo) : ShS μ (lo + 8) := CO_sh h (by decide +kernel) (by decide +kernel)
theorem CO.S28 (h : CO μ lo) : ShS μ (lo + 28) := CO_sh h (by decide +kernel) (by decide +kernel)
theorem CO.L21 (h : CO μ lo) : ShL μ (lo + 21) := CO_sh h (by decide +kernel) (by decide +kernel)
theorem CO.L41 (h : CO μ lo) : ShL μ (lo + 41) := CO_sh h (by decide +kernel) (by decide +kernel)
theorem CO.R23 (h : CO μ lo) : ShR μ (lo + 23) := CO_sh h (by decide +kernel) (by decide +kernel)
theorem CO.R43 (h : CO μ lo) : ShR μ (lo + 43) := CO_sh h (by decide +kernel) (by decide +kernel)
theorem CO.C26 (h : CO μ lo) : ShC μ (lo + 26) := CO_sh h (by decide +kernel) (by decide +kernel)
theorem CO.C46 (h : CO μ lo) : ShC μ (lo + 46) := CO_sh h (by decide +kernel) (by decide +kernel)
theorem CO.S51 (h : CO μ lo) : ShS μ (lo + 51) := CO_sh h (by decide +kernel) (by decide +kernel)
theorem CO.L64 (h : CO μ lo) : ShL μ (lo + 64) := CO_sh h (by decide +kernel) (by decide +kernel)
theorem CO.R66 (h : CO μ lo) : ShR μ (lo + 66) := CO_sh h (by decide +kernel) (by decide +kernel)
theorem CO.C69 (h : CO μ lo) : ShC μ (lo + 69) := CO_sh h (by decide +kernel) (by decide +kernel)
theorem CO.L72 (h : CO μ lo) : ShL μ (lo + 72) := CO_sh h (by decide +kernel) (by decide +kernel)
theorem CO.T74 (h : CO μ lo) : ShT μ (lo + 74) := CO_sh h (by decide +kernel) (by decide +kernel)
theorem CO.T79 (h : CO μ lo) : ShT μ (lo + 79) := CO_sh h (by decide +kernel) (by decide +kernel)
theorem CO.N84 (h : CO μ lo) : ShN μ (lo + 84) := CO_sh h (by decide +kernel) (by decide +kernel)
theorem CO.S85 (h : CO μ lo) : ShS μ (lo + 85) := CO_sh h (by decide +kernel) (by decide +kernel)
theorem CO.P102 (h : CO μ lo) : ShP μ (lo + 102) := CO_sh h (by decide +kernel) (by decide +kernel)
theorem CO.S103 (h : CO μ lo) : ShS μ (lo + 103) := CO_sh h (by decide +kernel) (by decide +kernel)
theorem CO.W122 (h : CO μ lo) : ShW μ (lo + 122) := CO_sh h (by decide +kernel) (by decide +kernel)
theorem CO.S124 (h : CO μ lo) : ShS μ (lo + 124) := CO_sh h (by decide +kernel) (by decide +kernel)
theorem CO.M146 (h : CO μ lo) : ShM μ (lo + 146) := CO_sh h (by decide +kernel) (by decide +kernel)
theorem CO.o (h : CO μ lo) : rk μ lo = some (.inl 11) ∧ rr μ lo 0 = some (lo + 1) ∧ rr μ lo 1 = some (lo + 48) ∧ rr μ lo 2 = some (lo + 49) ∧ rr μ lo 3 = some (lo + 72) ∧ rr μ lo 4 = some (lo + 74) ∧ rr μ lo 5 = some (lo + 79) ∧ rr μ lo 6 = some (lo + 84) ∧ rr μ lo 7 = some (lo + 102) ∧ rr μ lo 8 = some (lo + 122) ∧ ShD μ (lo + 1) := ⟨h.1 (0, 0, 11, 0) (by decide +kernel), h.2.1 (0, 0, 1) (by decide +kernel), h.2.1 (0, 1, 48) (by decide +kernel), h.2.1 (0, 2, 49) (by decide +kernel), h.2.1 (0, 3, 72) (by decide +kernel), h.2.1 (0, 4, 74) (by decide +kernel), h.2.1 (0, 5, 79) (by decide +kernel), h.2.1 (0, 6, 84) (by decide +kernel), h.2.1 (0, 7, 102) (by decide +kernel), h.2.1 (0, 8, 122) (by decide +kernel), h.D1⟩
theorem CO.pS {x : Int} (h : CO μ lo) (hx : 0 ≤ x ∧ x < 2) : rr μ (lo + 1 + 3) (J x).toNatClampNeg = some (lo + 8 + 20 * x.toNat) := by
  have : x = 0 ∨ x = 1 := by omega
  rcases this with rfl | rfl
  · exact h.2.1 (4, 0, 8) (by decide +kernel)
  · exact h.2.1 (4, 1, 28) (by decide +kernel)
theorem CO.pL {x : Int} (h : CO μ lo) (hx : 0 ≤ x ∧ x < 2) : rr μ (lo + 1 + 4) (J x).toNatClampNeg = some (lo + 21 + 20 * x.toNat) := by
  have : x = 0 ∨ x = 1 := by omega
  rcases this with rfl | rfl
  · exact h.2.1 (5, 0, 21) (by decide +kernel)
  · exact h.2.1 (5, 1, 41) (by decide +kernel)
theorem CO.pR {x : Int} (h : CO μ lo) (hx : 0 ≤ x ∧ x < 2) : rr μ (lo + 1 + 5) (J x).toNatClampNeg = some (lo + 23 + 20 * x.toNat) := by
  have : x = 0 ∨ x = 1 := by omega
  rcases this with rfl | rfl
  · exact h.2.1 (6, 0, 23) (by decide +kernel)
  · exact h.2.1 (6, 1, 43) (by decide +kernel)
theorem CO.pC {x : Int} (h : CO μ lo) (hx : 0 ≤ x ∧ x < 2) : rr μ (lo + 1 + 6) (J x).toNatClampNeg = some (lo + 26 + 20 * x.toNat) := by
  have : x = 0 ∨ x = 1 := by omega
  rcases this with rfl | rfl
  · exact h.2.1 (7, 0, 26) (by decide +kernel)
  · exact h.2.1 (7, 1, 46) (by decide +kernel)
theorem CO.Sx {x : Int} (h : CO μ lo) (hx : 0 ≤ x ∧ x < 2) : ShS μ (lo + 8 + 20 * x.toNat) := by
  have : x = 0 ∨ x = 1 := by omega
  rcases this with rfl | rfl
  · exact h.S8
  · exact h.S28
theorem CO.Lx {x : Int} (h : CO μ lo) (hx : 0 ≤ x ∧ x < 2) : ShL μ (lo + 21 + 20 * x.toNat) := by
  have : x = 0 ∨ x = 1 := by omega
  rcases this with rfl | rfl
  · exact h.L21
  · exact h.L41
theorem CO.Rx {x : Int} (h : CO μ lo) (hx : 0 ≤ x ∧ x < 2) : ShR μ (lo + 23 + 20 * x.toNat) := by
  have : x = 0 ∨ x = 1 := by omega
  rcases this with rfl | rfl
  · exact h.R23
  · exact h.R43
theorem CO.Cx {x : Int} (h : CO μ lo) (hx : 0 ≤ x ∧ x < 2) : ShC μ (lo + 26 + 20 * x.toNat) := by
  have : x = 0 ∨ x = 1 := by omega
  rcases this with rfl | rfl
  · exact h.C26
  · exact h.C46
end CLASS
/-- what a query leaves as it was -/
def FQ (lo : Nat) (μ : rM) (I : Nat → Int → Int) (μ' : rM) (I' : Nat → Int → Int) : Prop := (rk μ' = rk μ ∧ rz μ' = rz μ ∧ ru μ' = ru μ ∧ (∀ a f, ¬ vaR lo a f → rr μ' a f = rr μ a f) ∧ (WN μ lo → WN μ' lo)) ∧ (∀ a, (a < lo + 74 ∨ (lo + 79 ≤ a ∧ a < lo + 84) ∨ lo + 146 ≤ a) → I' a = I a) ∧ (DV (I (lo + 84 + 14)) ∧ SiV (I (lo + 84 + 15)) → DV (I' (lo + 84 + 14)) ∧ SiV (I' (lo + 84 + 15)))
theorem FQ.r {lo : Nat} {μ : rM} {I : Nat → Int → Int} : FQ lo μ I μ I := ⟨⟨rfl, rfl, rfl, fun _ _ _ => rfl, id⟩, fun _ _ => rfl, id⟩
theorem FQ.t {lo : Nat} {μ μ' μ'' : rM} {I I' I'' : Nat → Int → Int} (h : FQ lo μ I μ' I') (k : FQ lo μ' I' μ'' I'') : FQ lo μ I μ'' I'' := ⟨⟨k.1.1.trans h.1.1, k.1.2.1.trans h.1.2.1, k.1.2.2.1.trans h.1.2.2.1, fun a f z => (k.1.2.2.2.1 a f z).trans (h.1.2.2.2.1 a f z), fun z => k.1.2.2.2.2 (h.1.2.2.2.2 z)⟩, fun a z => (k.2.1 a z).trans (h.2.1 a z), fun z => k.2.2 (h.2.2 z)⟩
theorem FQ.C {lo : Nat} {μ μ' : rM} {I I' : Nat → Int → Int} (h : FQ lo μ I μ' I') (hC : CO μ lo) : CO μ' lo := CO_fr hC h.1.1 h.1.2.2.2.1 (h.1.2.2.2.2 hC.2.2)
/-- only numbers behind the night are changed -/
theorem FQ.i {lo : Nat} {μ : rM} {I I' : Nat → Int → Int} (h : ∀ a, (a < lo + 74 ∨ (lo + 79 ≤ a ∧ a < lo + 84) ∨ lo + 146 ≤ a) → I' a = I a) (h1 : I' (lo + 84 + 14) = I (lo + 84 + 14)) (h2 : I' (lo + 84 + 15) = I (lo + 84 + 15)) : FQ lo μ I μ I' := ⟨⟨rfl, rfl, rfl, fun _ _ _ => rfl, id⟩, h, fun z => by rw [h1, h2]; exact z⟩
/-- a query answers v -/
def CQ (lo : Nat) (μ : rM) (I : Nat → Int → Int) (v : Int) (r : Option rRs) : Prop := ∃ μ' I', r = some (some (.int (J v)), mj μ' I') ∧ FQ lo μ I μ' I'
theorem rws_S {μ : rM} {I : Nat → Int → Int} {b : Nat} (h : ShS μ b) : AtS μ I b (rws I b) := ⟨h, fun _ _ => rfl⟩
theorem rws_L {μ : rM} {I : Nat → Int → Int} {b : Nat} (h : ShL μ b) : AtL μ I b (rws I b) := ⟨h, fun _ _ => rfl⟩
theorem rws_R {μ : rM} {I : Nat → Int → Int} {b : Nat} (h : ShR μ b) : AtR μ I b (rws I b) := ⟨h, fun _ _ => rfl⟩
theorem rws_C {μ : rM} {I : Nat → Int → Int} {b : Nat} (h : ShC μ b) : AtC μ I b (rws I b) := ⟨h, fun _ _ => rfl⟩
theorem rws_T {μ : rM} {I : Nat → Int → Int} {b : Nat} (h : ShT μ b) : AtT μ I b (rws I b) := ⟨h, fun _ _ => rfl⟩
section CLASS
variable {E : (Nat → Value) × (Nat → Nat)} {lo d t : Nat} {μ : rM} {I : Nat → Int → Int} {s x y z w k u : Int}
theorem has_sp (hd : 1 ≤ d) (hD : ShD μ t) (hs : 0 ≤ s ∧ s < 4) (hx : i32 x) (hc : 0 ≤ I (t + 2) s ∧ I (t + 2) s ≤ 2) : cl E lo d 97 [.ref t, .int (J (s)), .int (J (x))] (mj μ I) = some (some (.int (J (b2i (decide (0 ≤ x ∧ x < I (t + 2) s))))), mj μ I) := by
  obtain ⟨d, rfl⟩ : ∃ e, d = e + 1 := ⟨d - 1, by omega⟩
  unfold i32 at hx
  simp (disch := omega) only [e97, b97_0, b97_4, b97_9, b97_13, b97_23, b97_27, b97_28, gO_D hD, gR_D0 hD, gR_D4 hD, gR_D5 hD, gR_D6 hD, gR_D7 hD, gR_D8 hD, al_D1 hD, al_D2 hD, al_D3 hD, al_D4 hD, al_D5 hD, al_D6 hD, rd_D1 hD, rd_D2 hD, rd_D3 hD, rd_D4 hD, rd_D5 hD, rd_D6 hD, Jl0, Jl1, Jl2, Jl3, Jl4, Jl5, Jl6, Jl7, Jl8, Jl9, Jl10, Jl11, Jl12, Jl13, Jl14, Jl15, Jl16, Jl17, Jl18, Jl19, Jl20, Jl22, Jl24, Jl28, Jl30, Jl31, Jl32, Jl35, Jl36, Jl37, Jl38, Jl39, Jl40, Jl48, Jl57, Jl59, Jl60, Jl61, Jl63, Jl64, Jl68, Jl69, Jl96, Jl97, Jl98, Jl99, Jl100, Jl122, Jl149, Jl150, Jl165, Jl255, Jl511, Jl512, Jl600, Jl610, Jl940, Jl968, Jl999, Jl1134, Jl1152, Jl2048, Jl4608, Jl9999, Jl99999, Jl100000, Jl147456, Jl12345, Jl1103515245, Jl100000000, Jlm1, Jlm2, J_add, J_sub, J_mul, J_lt, J_le, J_eq, J_ite, J_cl, ri_j, wi_j, b2i_z, b2i_o, b2i_zo, Int.cast_ofNat_Int, Int.natCast_zero, Int.natCast_one, if_true, if_false, ite_self, Int.le_refl, J_bit, J_or, J_neg, J_oN, Int.reduceEq, Int.reduceLT, Int.reduceLE, Int.reduceNeg, Int.reduceAdd, Int.reduceSub, Int.reduceMul, Int.reduceToNat, J_shl, J_shr, V_ite, true_or, or_true, nz_j, J_div, J_rem, Option.bind_some, Option.toList_some, Option.toList_none, List.cons_append, List.nil_append, Jl21, Jl23, Jl25, Jl74, Jl83, Jl288, Jl324, Jl1800, Jlm8]
  refine V_ok _ ?_
  grind [b2i]
theorem iu_sp (hd : 1 ≤ d) (hx : i32 x) : cl E lo d 160 [.int (J (x))] μ = some (some (.int (J (b2i (decide (0 ≤ x ∧ x < 36))))), μ) := by
  obtain ⟨d, rfl⟩ : ∃ e, d = e + 1 := ⟨d - 1, by omega⟩
  unfold i32 at hx
  simp (disch := omega) only [e160, b160_0, b160_4, b160_10, b160_14, b160_15, Jl0, Jl1, Jl2, Jl3, Jl4, Jl5, Jl6, Jl7, Jl8, Jl9, Jl10, Jl11, Jl12, Jl13, Jl14, Jl15, Jl16, Jl17, Jl18, Jl19, Jl20, Jl22, Jl24, Jl28, Jl30, Jl31, Jl32, Jl35, Jl36, Jl37, Jl38, Jl39, Jl40, Jl48, Jl57, Jl59, Jl60, Jl61, Jl63, Jl64, Jl68, Jl69, Jl96, Jl97, Jl98, Jl99, Jl100, Jl122, Jl149, Jl150, Jl165, Jl255, Jl511, Jl512, Jl600, Jl610, Jl940, Jl968, Jl999, Jl1134, Jl1152, Jl2048, Jl4608, Jl9999, Jl99999, Jl100000, Jl147456, Jl12345, Jl1103515245, Jl100000000, Jlm1, Jlm2, J_add, J_sub, J_mul, J_lt, J_le, J_eq, J_ite, J_cl, ri_j, wi_j, b2i_z, b2i_o, b2i_zo, Int.cast_ofNat_Int, Int.natCast_zero, Int.natCast_one, if_true, if_false, ite_self, Int.le_refl, J_bit, J_or, J_neg, J_oN, Int.reduceEq, Int.reduceLT, Int.reduceLE, Int.reduceNeg, Int.reduceAdd, Int.reduceSub, Int.reduceMul, Int.reduceToNat, J_shl, J_shr, V_ite, true_or, or_true, nz_j, J_div, J_rem, Option.bind_some, Option.toList_some, Option.toList_none, List.cons_append, List.nil_append, Jl21, Jl23, Jl25, Jl74, Jl83, Jl288, Jl324, Jl1800, Jlm8]
  refine V_ok _ ?_
  grind [b2i]
theorem isl_sp (hd : 2 ≤ d) (hC : CO μ lo) (hc : 0 ≤ I (lo + 1 + 2) 0 ∧ I (lo + 1 + 2) 0 ≤ 2) (hS : 0 ≤ x → x < I (lo + 1 + 2) 0 → SV5 (rws I (lo + 8 + 20 * x.toNat))) (hx : i32 x ∧ i32 k) : cl E lo d 161 [.ref lo, .int (J (x)), .int (J (k))] (mj μ I) = some (some (.int (J (b2i (decide ((0 ≤ x ∧ x < I (lo + 1 + 2) 0) ∧ 0 ≤ k ∧ k < rws I (lo + 8 + 20 * x.toNat) 0 3))))), mj μ I) := by
  obtain ⟨d, rfl⟩ : ∃ e, d = e + 1 := ⟨d - 1, by omega⟩
  obtain ⟨hO, f0, f1, f2, f3, f4, f5, f6, f7, f8, hD⟩ := CO.o hC
  have hh := has_sp (E := E) (lo := lo) (d := d) (t := lo + 1) (I := I) (s := 0) (by omega) hD (by omega) hx.1 hc
  have hx' := hx
  unfold i32 at hx'
  by_cases c : 0 ≤ x ∧ x < I (lo + 1 + 2) 0
  · have hV := (hS c.1 c.2).1
    have g := hC.pS (x := x) (by omega)
    have hAt := rws_S (I := I) (hC.Sx (x := x) (by omega))
    have hs := hs_sp (E := E) (lo := lo) (d := d) (by omega) hAt hV hx'.2
    have hSh := hAt.1
    rw [decide_eq_true c] at hh
    simp (disch := omega) only [e161, b161_0, b161_9, b161_12, b161_25, b161_28, b161_32, b161_33, gO_k hO, gR_k f0, gR_k f1, gR_k f2, gR_k f3, gR_k f4, gR_k f5, gR_k f6, gR_k f7, gR_k f8, gO_D hD, gR_D0 hD, gR_D4 hD, gR_D5 hD, gR_D6 hD, gR_D7 hD, gR_D8 hD, al_D1 hD, al_D2 hD, al_D3 hD, al_D4 hD, al_D5 hD, al_D6 hD, rd_D1 hD, rd_D2 hD, rd_D3 hD, rd_D4 hD, rd_D5 hD, rd_D6 hD, hh, b2i_t, gR_k g, gO_S hSh, gR_S2 hSh, gR_S4 hSh, gR_S5 hSh, gR_S6 hSh, gR_S7 hSh, gR_S8 hSh, gR_S9 hSh, gR_S10 hSh, gR_S11 hSh, gR_S12 hSh, gR_S14 hSh, gR_S15 hSh, al_S1 hSh, al_S2 hSh, al_S3 hSh, al_S4 hSh, al_S5 hSh, al_S6 hSh, al_S7 hSh, al_S8 hSh, al_S9 hSh, al_S10 hSh, al_S11 hSh, al_S12 hSh, rd_S1 hSh, rd_S2 hSh, rd_S3 hSh, rd_S4 hSh, rd_S5 hSh, rd_S6 hSh, rd_S7 hSh, rd_S8 hSh, rd_S9 hSh, rd_S10 hSh, rd_S11 hSh, rd_S12 hSh, hs, Jl0, Jl1, Jl2, Jl3, Jl4, Jl5, Jl6, Jl7, Jl8, Jl9, Jl10, Jl11, Jl12, Jl13, Jl14, Jl15, Jl16, Jl17, Jl18, Jl19, Jl20, Jl22, Jl24, Jl28, Jl30, Jl31, Jl32, Jl35, Jl36, Jl37, Jl38, Jl39, Jl40, Jl48, Jl57, Jl59, Jl60, Jl61, Jl63, Jl64, Jl68, Jl69, Jl96, Jl97, Jl98, Jl99, Jl100, Jl122, Jl149, Jl150, Jl165, Jl255, Jl511, Jl512, Jl600, Jl610, Jl940, Jl968, Jl999, Jl1134, Jl1152, Jl2048, Jl4608, Jl9999, Jl99999, Jl100000, Jl147456, Jl12345, Jl1103515245, Jl100000000, Jlm1, Jlm2, J_add, J_sub, J_mul, J_lt, J_le, J_eq, J_ite, J_cl, ri_j, wi_j, b2i_z, b2i_o, b2i_zo, Int.cast_ofNat_Int, Int.natCast_zero, Int.natCast_one, if_true, if_false, ite_self, Int.le_refl, J_bit, J_or, J_neg, J_oN, Int.reduceEq, Int.reduceLT, Int.reduceLE, Int.reduceNeg, Int.reduceAdd, Int.reduceSub, Int.reduceMul, Int.reduceToNat, J_shl, J_shr, V_ite, true_or, or_true, nz_j, J_div, J_rem, Option.bind_some, Option.toList_some, Option.toList_none, List.cons_append, List.nil_append, Jl21, Jl23, Jl25, Jl74, Jl83, Jl288, Jl324, Jl1800, Jlm8]
    refine V_ok _ ?_
    grind [b2i]
  · rw [decide_eq_false c] at hh
    rw [decide_eq_false (fun z => c z.1)]
    simp (disch := omega) only [b161_0, b161_9, b161_32, b161_33, e161, gO_k hO, gR_k f0, gR_k f1, gR_k f2, gR_k f3, gR_k f4, gR_k f5, gR_k f6, gR_k f7, gR_k f8, gO_D hD, gR_D0 hD, gR_D4 hD, gR_D5 hD, gR_D6 hD, gR_D7 hD, gR_D8 hD, al_D1 hD, al_D2 hD, al_D3 hD, al_D4 hD, al_D5 hD, al_D6 hD, rd_D1 hD, rd_D2 hD, rd_D3 hD, rd_D4 hD, rd_D5 hD, rd_D6 hD, hh, b2i_f, Jl0, Jl1, Jl2, Jl3, Jl4, Jl5, Jl6, Jl7, Jl8, Jl9, Jl10, Jl11, Jl12, Jl13, Jl14, Jl15, Jl16, Jl17, Jl18, Jl19, Jl20, Jl22, Jl24, Jl28, Jl30, Jl31, Jl32, Jl35, Jl36, Jl37, Jl38, Jl39, Jl40, Jl48, Jl57, Jl59, Jl60, Jl61, Jl63, Jl64, Jl68, Jl69, Jl96, Jl97, Jl98, Jl99, Jl100, Jl122, Jl149, Jl150, Jl165, Jl255, Jl511, Jl512, Jl600, Jl610, Jl940, Jl968, Jl999, Jl1134, Jl1152, Jl2048, Jl4608, Jl9999, Jl99999, Jl100000, Jl147456, Jl12345, Jl1103515245, Jl100000000, Jlm1, Jlm2, J_add, J_sub, J_mul, J_lt, J_le, J_eq, J_ite, J_cl, ri_j, wi_j, b2i_z, b2i_o, b2i_zo, Int.cast_ofNat_Int, Int.natCast_zero, Int.natCast_one, if_true, if_false, ite_self, Int.le_refl, J_bit, J_or, J_neg, J_oN, Int.reduceEq, Int.reduceLT, Int.reduceLE, Int.reduceNeg, Int.reduceAdd, Int.reduceSub, Int.reduceMul, Int.reduceToNat, J_shl, J_shr, V_ite, true_or, or_true, nz_j, J_div, J_rem, Option.bind_some, Option.toList_some, Option.toList_none, List.cons_append, List.nil_append, Jl21, Jl23, Jl25, Jl74, Jl83, Jl288, Jl324, Jl1800, Jlm8]
theorem iho_sp (hd : 2 ≤ d) (hC : CO μ lo) (hc : 0 ≤ I (lo + 1 + 2) 0 ∧ I (lo + 1 + 2) 0 ≤ 2) (hS : 0 ≤ x → x < I (lo + 1 + 2) 0 → SV5 (rws I (lo + 8 + 20 * x.toNat))) (hx : i32 x ∧ i32 k) : cl E lo d 162 [.ref lo, .int (J (x)), .int (J (k))] (mj μ I) = some (some (.int (J (b2i (decide ((0 ≤ x ∧ x < I (lo + 1 + 2) 0) ∧ 0 ≤ k ∧ k < rws I (lo + 8 + 20 * x.toNat) 0 0))))), mj μ I) := by
  obtain ⟨d, rfl⟩ : ∃ e, d = e + 1 := ⟨d - 1, by omega⟩
  obtain ⟨hO, f0, f1, f2, f3, f4, f5, f6, f7, f8, hD⟩ := CO.o hC
  have hh := has_sp (E := E) (lo := lo) (d := d) (t := lo + 1) (I := I) (s := 0) (by omega) hD (by omega) hx.1 hc
  have hx' := hx
  unfold i32 at hx'
  by_cases c : 0 ≤ x ∧ x < I (lo + 1 + 2) 0
  · have hV := (hS c.1 c.2).1
    have g := hC.pS (x := x) (by omega)
    have hAt := rws_S (I := I) (hC.Sx (x := x) (by omega))
    have hs := hh_sp (E := E) (lo := lo) (d := d) (by omega) hAt hV hx'.2
    have hSh := hAt.1
    rw [decide_eq_true c] at hh
    simp (disch := omega) only [e162, b162_0, b162_9, b162_12, b162_25, b162_28, b162_32, b162_33, gO_k hO, gR_k f0, gR_k f1, gR_k f2, gR_k f3, gR_k f4, gR_k f5, gR_k f6, gR_k f7, gR_k f8, gO_D hD, gR_D0 hD, gR_D4 hD, gR_D5 hD, gR_D6 hD, gR_D7 hD, gR_D8 hD, al_D1 hD, al_D2 hD, al_D3 hD, al_D4 hD, al_D5 hD, al_D6 hD, rd_D1 hD, rd_D2 hD, rd_D3 hD, rd_D4 hD, rd_D5 hD, rd_D6 hD, hh, b2i_t, gR_k g, gO_S hSh, gR_S2 hSh, gR_S4 hSh, gR_S5 hSh, gR_S6 hSh, gR_S7 hSh, gR_S8 hSh, gR_S9 hSh, gR_S10 hSh, gR_S11 hSh, gR_S12 hSh, gR_S14 hSh, gR_S15 hSh, al_S1 hSh, al_S2 hSh, al_S3 hSh, al_S4 hSh, al_S5 hSh, al_S6 hSh, al_S7 hSh, al_S8 hSh, al_S9 hSh, al_S10 hSh, al_S11 hSh, al_S12 hSh, rd_S1 hSh, rd_S2 hSh, rd_S3 hSh, rd_S4 hSh, rd_S5 hSh, rd_S6 hSh, rd_S7 hSh, rd_S8 hSh, rd_S9 hSh, rd_S10 hSh, rd_S11 hSh, rd_S12 hSh, hs, Jl0, Jl1, Jl2, Jl3, Jl4, Jl5, Jl6, Jl7, Jl8, Jl9, Jl10, Jl11, Jl12, Jl13, Jl14, Jl15, Jl16, Jl17, Jl18, Jl19, Jl20, Jl22, Jl24, Jl28, Jl30, Jl31, Jl32, Jl35, Jl36, Jl37, Jl38, Jl39, Jl40, Jl48, Jl57, Jl59, Jl60, Jl61, Jl63, Jl64, Jl68, Jl69, Jl96, Jl97, Jl98, Jl99, Jl100, Jl122, Jl149, Jl150, Jl165, Jl255, Jl511, Jl512, Jl600, Jl610, Jl940, Jl968, Jl999, Jl1134, Jl1152, Jl2048, Jl4608, Jl9999, Jl99999, Jl100000, Jl147456, Jl12345, Jl1103515245, Jl100000000, Jlm1, Jlm2, J_add, J_sub, J_mul, J_lt, J_le, J_eq, J_ite, J_cl, ri_j, wi_j, b2i_z, b2i_o, b2i_zo, Int.cast_ofNat_Int, Int.natCast_zero, Int.natCast_one, if_true, if_false, ite_self, Int.le_refl, J_bit, J_or, J_neg, J_oN, Int.reduceEq, Int.reduceLT, Int.reduceLE, Int.reduceNeg, Int.reduceAdd, Int.reduceSub, Int.reduceMul, Int.reduceToNat, J_shl, J_shr, V_ite, true_or, or_true, nz_j, J_div, J_rem, Option.bind_some, Option.toList_some, Option.toList_none, List.cons_append, List.nil_append, Jl21, Jl23, Jl25, Jl74, Jl83, Jl288, Jl324, Jl1800, Jlm8]
    refine V_ok _ ?_
    grind [b2i]
  · rw [decide_eq_false c] at hh
    rw [decide_eq_false (fun z => c z.1)]
    simp (disch := omega) only [b162_0, b162_9, b162_32, b162_33, e162, gO_k hO, gR_k f0, gR_k f1, gR_k f2, gR_k f3, gR_k f4, gR_k f5, gR_k f6, gR_k f7, gR_k f8, gO_D hD, gR_D0 hD, gR_D4 hD, gR_D5 hD, gR_D6 hD, gR_D7 hD, gR_D8 hD, al_D1 hD, al_D2 hD, al_D3 hD, al_D4 hD, al_D5 hD, al_D6 hD, rd_D1 hD, rd_D2 hD, rd_D3 hD, rd_D4 hD, rd_D5 hD, rd_D6 hD, hh, b2i_f, Jl0, Jl1, Jl2, Jl3, Jl4, Jl5, Jl6, Jl7, Jl8, Jl9, Jl10, Jl11, Jl12, Jl13, Jl14, Jl15, Jl16, Jl17, Jl18, Jl19, Jl20, Jl22, Jl24, Jl28, Jl30, Jl31, Jl32, Jl35, Jl36, Jl37, Jl38, Jl39, Jl40, Jl48, Jl57, Jl59, Jl60, Jl61, Jl63, Jl64, Jl68, Jl69, Jl96, Jl97, Jl98, Jl99, Jl100, Jl122, Jl149, Jl150, Jl165, Jl255, Jl511, Jl512, Jl600, Jl610, Jl940, Jl968, Jl999, Jl1134, Jl1152, Jl2048, Jl4608, Jl9999, Jl99999, Jl100000, Jl147456, Jl12345, Jl1103515245, Jl100000000, Jlm1, Jlm2, J_add, J_sub, J_mul, J_lt, J_le, J_eq, J_ite, J_cl, ri_j, wi_j, b2i_z, b2i_o, b2i_zo, Int.cast_ofNat_Int, Int.natCast_zero, Int.natCast_one, if_true, if_false, ite_self, Int.le_refl, J_bit, J_or, J_neg, J_oN, Int.reduceEq, Int.reduceLT, Int.reduceLE, Int.reduceNeg, Int.reduceAdd, Int.reduceSub, Int.reduceMul, Int.reduceToNat, J_shl, J_shr, V_ite, true_or, or_true, nz_j, J_div, J_rem, Option.bind_some, Option.toList_some, Option.toList_none, List.cons_append, List.nil_append, Jl21, Jl23, Jl25, Jl74, Jl83, Jl288, Jl324, Jl1800, Jlm8]
end CLASS
