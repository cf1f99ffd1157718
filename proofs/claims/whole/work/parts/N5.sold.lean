/-! THE CLASS: what is sold -/
theorem rr_wr {μ : rM} {a f : Nat} {o : Option Nat} {b g : Nat} : rr (wr μ a f o) b g = if b = a ∧ g = f then o else rr μ b g := rfl
theorem rk_wr {μ : rM} {a f : Nat} {o : Option Nat} : rk (wr μ a f o) = rk μ := rfl
theorem ShS_m {μ μ' : rM} {b : Nat} (h : ShS μ b) (hk : rk μ' = rk μ) (hr : ∀ f, rr μ' b f = rr μ b f) : ShS μ' b := ⟨by rw [hk]; exact h.1, fun q hq => ⟨by rw [hr]; exact (h.2 q hq).1, by rw [hk]; exact (h.2 q hq).2⟩⟩
theorem ShL_m {μ μ' : rM} {b : Nat} (h : ShL μ b) (hk : rk μ' = rk μ) (hr : ∀ f, rr μ' b f = rr μ b f) : ShL μ' b := ⟨by rw [hk]; exact h.1, fun q hq => ⟨by rw [hr]; exact (h.2 q hq).1, by rw [hk]; exact (h.2 q hq).2⟩⟩
theorem ShT_m {μ μ' : rM} {b : Nat} (h : ShT μ b) (hk : rk μ' = rk μ) (hr : ∀ f, rr μ' b f = rr μ b f) : ShT μ' b := ⟨by rw [hk]; exact h.1, fun q hq => ⟨by rw [hr]; exact (h.2 q hq).1, by rw [hk]; exact (h.2 q hq).2⟩⟩
theorem ShN_m {μ μ' : rM} {b : Nat} (h : ShN μ b) (hk : rk μ' = rk μ) (hr : ∀ f, rr μ' b f = rr μ b f) : ShN μ' b := ⟨by rw [hk]; exact h.1, fun q hq => ⟨by rw [hr]; exact (h.2 q hq).1, by rw [hk]; exact (h.2 q hq).2⟩⟩
theorem NC_m {μ μ' : rM} {I S L T : Nat → Int → Int} {n s l t : Nat} (h : NC μ I n s l t S L T) (hk : rk μ' = rk μ) (hr : ∀ a, a = n ∨ a = s ∨ a = l ∨ a = t → ∀ f, rr μ' a f = rr μ a f) : NC μ' I n s l t S L T := by
  obtain ⟨hN, h0, g1, g2, hS, hV, hL, hLV, hT, hTV, hA, hD, hI⟩ := h
  exact ⟨ShN_m hN hk (hr n (Or.inl rfl)), by rw [hr n (Or.inl rfl)]; exact h0, by rw [hr n (Or.inl rfl)]; exact g1, by rw [hr n (Or.inl rfl)]; exact g2, ⟨ShS_m hS.1 hk (hr s (by simp)), hS.2⟩, hV, ⟨ShL_m hL.1 hk (hr l (by simp)), hL.2⟩, hLV, ⟨ShT_m hT.1 hk (hr t (by simp)), hT.2⟩, hTV, hA, hD, hI⟩
/-- the most that may yet be had -/
def moQ (S : Nat → Int → Int) (mq : Int → Int) (vs : Int) : Int := sm (fun k => if tb vs k = true then 0 else mq k) (S 0 0)
def mqQ (cq : Int → Int → Int) (h n : Int) : Int := fo (fun u x => if x < cq h u then cq h u else x) 0 n
theorem mqQ_s {cq : Int → Int → Int} {h n : Int} (hn : 0 ≤ n) : mqQ cq h (n + 1) = if mqQ cq h n < cq h n then cq h n else mqQ cq h n := fo_s _ _ hn
theorem mqQ_b {cq : Int → Int → Int} {h n B : Int} (hn : 0 ≤ n) (hB : 0 ≤ B) (hc : ∀ u, 0 ≤ u → u < n → cq h u ≤ B) : 0 ≤ mqQ cq h n ∧ mqQ cq h n ≤ B := by
  refine fo_ind (fun _ (x : Int) => 0 ≤ x ∧ x ≤ B) _ _ hn (by omega) (fun i x q1 q2 q3 => ?_)
  have := hc i q1 q2
  split <;> omega
theorem mqQ_u {cq : Int → Int → Int} {h n u : Int} (hu : 0 ≤ u ∧ u < n) : cq h u ≤ mqQ cq h n := by
  obtain ⟨m, rfl⟩ : ∃ m : Nat, n = m := ⟨n.toNat, by omega⟩
  induction m with
  | zero => omega
  | succ m ih =>
    rw [show ((m + 1 : Nat) : Int) = (m : Int) + 1 by omega, mqQ_s (by omega)]
    by_cases c : u = m
    · rw [c]; split <;> omega
    · have := ih (by omega)
      split <;> omega
section PURE
variable {S : Nat → Int → Int} {mq : Int → Int} {cq : Int → Int → Int} {vs k : Int}
theorem moQ_0 (hS : 0 ≤ S 0 0) (hm : ∀ k, 0 ≤ k → k < S 0 0 → 0 ≤ mq k ∧ mq k ≤ 9000) : 0 ≤ moQ S mq vs ∧ moQ S mq vs ≤ 9000 * S 0 0 := by
  have := sm_b (fun k => if tb vs k = true then 0 else mq k) (n := S 0 0) (A := 0) (B := 9000) hS (fun i a b => by have := hm i a b; split <;> omega)
  unfold moQ
  omega
theorem moQ_s (hv : 0 ≤ vs) (hk : 0 ≤ k ∧ k < S 0 0) (ht : tb vs k = false) : moQ S mq (so vs (p2 k)) = moQ S mq vs - mq k := by
  unfold moQ
  have pk := p2_0 k
  rw [sm_up (fun k => if tb vs k = true then 0 else mq k) (fun j => if tb (so vs (p2 k)) j = true then 0 else mq j) (n := S 0 0) (u := k) hk (fun v q1 q2 q3 => by
    rw [tb_so _ _ _ hv (by omega), tb_p2 hk.1 q1, decide_eq_false (fun z => q3 z.symm), Bool.or_false])]
  rw [tb_so _ _ _ hv (by omega), tb_p2 hk.1 hk.1, decide_eq_true rfl, Bool.or_true, ht]
  simp
  omega
/-- rows that are too dear change nothing -/
theorem sdF_p (hV : SV S) (hm : ∀ k u, 0 ≤ k → k < S 0 0 → 0 ≤ u → u ≤ 35 → cq k u ≤ mq k) (hm0 : ∀ k, 0 ≤ k → k < S 0 0 → 0 ≤ mq k ∧ mq k ≤ 9000) : ∀ (m : Nat) (n h u vs s : Int) (row : Int → Int) (b : Int × Int × (Int → Int)), 0 ≤ h ∧ h < S 0 0 → 0 ≤ u ∧ u ≤ 35 → 0 ≤ vs → s + cq h u + moQ S mq (so vs (p2 h)) ≤ b.1 → sdF S cq m n h u vs s row b = b := by
  have v := hV.1
  intro m
  induction m with
  | zero => intro n h u vs s row b _ _ _ _; rfl
  | succ m ih =>
    intro n h u vs s row b hh hu hv hb
    have m0 := (moQ_0 (S := S) (mq := mq) (vs := so vs (p2 h)) (by omega) hm0).1
    have sv : 0 ≤ so vs (p2 h) := (so_lt (s := vs) (t := p2 h) (n := (vs.toNat + (p2 h).toNat)) ⟨hv, by
      have : vs.toNat + (p2 h).toNat < 2 ^ (vs.toNat + (p2 h).toNat) := Nat.lt_two_pow_self
      have q : ((2 ^ (vs.toNat + (p2 h).toNat) : Nat) : Int) = (2 : Int) ^ (vs.toNat + (p2 h).toNat) := by push_cast; rfl
      rw [← q]
      omega⟩ ⟨by have := p2_0 h; omega, by
      have : vs.toNat + (p2 h).toNat < 2 ^ (vs.toNat + (p2 h).toNat) := Nat.lt_two_pow_self
      have q : ((2 ^ (vs.toNat + (p2 h).toNat) : Nat) : Int) = (2 : Int) ^ (vs.toNat + (p2 h).toNat) := by push_cast; rfl
      rw [← q]
      have := p2_0 h
      omega⟩).1
    unfold sdF
    rw [if_neg (by omega)]
    refine fo_ind (fun _ x => x = b) _ _ (by omega) rfl (fun k x q1 q2 q3 => ?_)
    subst q3
    have vd := hV.2.1 (h * 8 + k) (by omega) (by omega)
    split
    · rename_i c
      have e := moQ_s (mq := mq) sv ⟨q1, q2⟩ c.2.2
      have := hm k (u + S 1 (h * 8 + k)) q1 q2 (by omega) (by omega)
      exact ih _ _ _ _ _ _ _ ⟨q1, q2⟩ (by omega) sv (by omega)
    · rfl
end PURE
/-- what is sold so far, in the class -/
def BW (I : Nat → Int → Int) (n : Nat) (b : Int × Int × (Int → Int)) : Prop := I n 0 = b.1 ∧ (-1 ≤ b.1 ∧ b.1 ≤ 72000) ∧ (b.1 ≠ -1 → I n 1 = b.2.1 ∧ (1 ≤ b.2.1 ∧ b.2.1 ≤ 8) ∧ ∀ j, 0 ≤ j → j < b.2.1 → I (n + 1) j = b.2.2 j)
section CLASS
variable {E : (Nat → Value) × (Nat → Nat)} {lo d s l t n : Nat} {μ : rM} {I S L T R : Nat → Int → Int} {x y z w k u h a b : Int} {bb : Bool}
/-- rows behind a house -/
theorem gr_sp {cq : Int → Int → Int} (hW : ShW μ n) (hl : lo ≤ n) (hs : rr μ n 3 = some s) (ha : s + 13 ≤ n) (hV : SV S) (hcq : ∀ h u, 0 ≤ h → h < S 0 0 → 0 ≤ u → u ≤ 35 → 0 ≤ cq h u ∧ cq h u ≤ 9000) : ∀ (m : Nat) (d : Nat) (c h u vs sm0 : Int) (row : Int → Int) (b : Int × Int × (Int → Int)) (I : Nat → Int → Int), m + 2 ≤ d → c = 8 - m → 0 ≤ c → AtS μ I s S → (∀ h u, 0 ≤ h → h < S 0 0 → 0 ≤ u → u ≤ 35 → I (n + 16) (h * 36 + u) = cq h u) → (∀ k, 1 ≤ k → k < S 0 0 → I (n + 17) k = mqQ cq k 36) → 0 ≤ h ∧ h < S 0 0 → 0 ≤ u ∧ u ≤ 35 → 0 ≤ vs ∧ vs < p2 (S 0 0) → tb (so vs (p2 h)) 0 = true → 0 ≤ sm0 ∧ sm0 ≤ 9000 * c → (∀ j, 0 ≤ j → j < c → I (n + 15) j = row j) → BW I n b → ∃ I2, cl E lo d 113 [.ref n, .int (J (c)), .int (J (h)), .int (J (u)), .int (J (vs)), .int (J (sm0)), .int (J ((moQ S (fun k => mqQ cq k 36) (so vs (p2 h)))))] (mj μ I) = some (none, mj μ I2) ∧ (∀ a, a ≠ n → a ≠ n + 1 → a ≠ n + 15 → I2 a = I a) ∧ (∀ j, 0 ≤ j → j < c → I2 (n + 15) j = I (n + 15) j) ∧ BW I2 n (sdF S cq m c h u vs sm0 row b) := by
  have v := hV.1
  have pp := p2_256 hV
  have hm0 : ∀ k, 0 ≤ k → k < S 0 0 → 0 ≤ mqQ cq k 36 ∧ mqQ cq k 36 ≤ 9000 := fun k q1 q2 => mqQ_b (by omega) (by omega) (fun u z1 z2 => (hcq k u q1 q2 z1 (by omega)).2)
  have hmm : ∀ k u, 0 ≤ k → k < S 0 0 → 0 ≤ u → u ≤ 35 → cq k u ≤ mqQ cq k 36 := fun k u q1 q2 q3 q4 => mqQ_u (by omega)
  intro m
  induction m with
  | zero =>
    intro d c h u vs sm0 row b I hd hc hc0 hS hch hmo hh hu hv hz hsm hrow hB
    obtain ⟨d, rfl⟩ : ∃ e, d = e + 1 := ⟨d - 1, by omega⟩
    refine ⟨I, ?_, fun _ _ _ _ => rfl, fun _ _ _ => rfl, hB⟩
    simp (disch := omega) only [b113_0, b113_6, e113, Jl0, Jl1, Jl2, Jl3, Jl4, Jl5, Jl6, Jl7, Jl8, Jl9, Jl10, Jl11, Jl12, Jl13, Jl14, Jl15, Jl16, Jl17, Jl18, Jl19, Jl20, Jl22, Jl24, Jl28, Jl30, Jl31, Jl32, Jl35, Jl36, Jl37, Jl38, Jl39, Jl40, Jl48, Jl57, Jl59, Jl60, Jl61, Jl63, Jl64, Jl68, Jl69, Jl96, Jl97, Jl98, Jl99, Jl100, Jl122, Jl149, Jl150, Jl165, Jl255, Jl511, Jl512, Jl600, Jl610, Jl940, Jl968, Jl999, Jl1134, Jl1152, Jl2048, Jl4608, Jl9999, Jl99999, Jl100000, Jl147456, Jl12345, Jl1103515245, Jl100000000, Jlm1, Jlm2, J_add, J_sub, J_mul, J_lt, J_le, J_eq, J_ite, J_cl, ri_j, wi_j, b2i_z, b2i_o, b2i_zo, Int.cast_ofNat_Int, Int.natCast_zero, Int.natCast_one, if_true, if_false, ite_self, Int.le_refl, J_bit, J_or, J_neg, J_oN, Int.reduceEq, Int.reduceLT, Int.reduceLE, Int.reduceNeg, Int.reduceAdd, Int.reduceSub, Int.reduceMul, Int.reduceToNat, J_shl, J_shr, V_ite, true_or, or_true, nz_j, J_div, J_rem, Option.bind_some, Option.toList_some, Option.toList_none, List.cons_append, List.nil_append, Jl21, Jl23, Jl25, Jl74, Jl83, Jl288, Jl324, Jl1800, Jlm8]
    repeat (first | rw [if_neg (by omega)] | rw [if_pos (by omega)])
  | succ m ih =>
    intro d c h u vs sm0 row b I hd hc hc0 hS hch hmo hh hu hv hz hsm hrow hB
    obtain ⟨d, rfl⟩ : ∃ e, d = e + 1 := ⟨d - 1, by omega⟩
    have ph := p2_0 h
    have phl := p2_le (k := h + 1) (m := S 0 0) (by omega)
    rw [p2_s (by omega)] at phl
    have sob := so_p2 (s := vs) (t := p2 h) (k := S 0 0) hv (by omega)
    have mb := moQ_0 (S := S) (mq := fun k => mqQ cq k 36) (vs := so vs (p2 h)) (by omega) hm0
    have cb := hcq h u hh.1 hh.2 hu.1 hu.2
    have hcu := hch h u hh.1 hh.2 hu.1 hu.2
    obtain ⟨B0, B1, B2⟩ := id hB
    obtain ⟨X, eX⟩ : ∃ X, X = sm0 + cq h u := ⟨_, rfl⟩
    obtain ⟨ro, ero⟩ : ∃ ro, ro = moQ S (fun k => mqQ cq k 36) (so vs (p2 h)) := ⟨_, rfl⟩
    obtain ⟨v8, ev8⟩ : ∃ v8, v8 = so vs (p2 h) := ⟨_, rfl⟩
    rw [← ev8] at ero sob hz
    rw [← ev8] at mb ⊢
    rw [← ero] at mb ⊢
    -- the house is in the row; better or not
    have st1 : ∃ I1, cl E lo (d + 1) 113 [.ref n, .int (J c), .int (J h), .int (J u), .int (J vs), .int (J sm0), .int (J ro)] (mj μ I) = ex PG E lo d 113 67 [some (.ref n), some (.int (J (c))), some (.int (J (h))), some (.int (J (u))), some (.int (J (vs))), some (.int (J (sm0))), some (.int (J (ro))), some (.int (J (X))), none, none, none] [] (mj μ I1) ∧ (∀ a, a ≠ n → a ≠ n + 1 → a ≠ n + 15 → I1 a = I a) ∧ (∀ j, 0 ≤ j → j ≤ c → I1 (n + 15) j = u1 row c h j) ∧ BW I1 n (if b.1 < X then (X, c + 1, u1 row c h) else b) := by
      have rw0 : ∀ j, 0 ≤ j → j ≤ c → u3 I (n + 15) c h (n + 15) j = u1 row c h j := fun j q1 q2 => by
        by_cases cj : j = c
        · rw [cj, u3_s, u1_s]
        · rw [u3_n (by omega), u1_n cj]; exact hrow j q1 (by omega)
      by_cases cX : b.1 < X
      · rw [if_pos cX]
        have hac := fun X (r : Option rRs) => acp_k (μ := μ) (lo := lo) (I := X) (r := r) (x := 0) (y := 0) (w := 8) (hW.2 (4, 15, 0, 8) (by decide)).2 (hW.2 (2, 1, 0, 8) (by decide)).2 (Or.inl rfl) (by dsimp only; omega) (by dsimp only; omega)
        refine ⟨sA (u3 (u3 (u3 I (n + 15) c h) n 0 X) n 1 (c + 1)) (n + 1) (cpr (u3 (u3 (u3 I (n + 15) c h) n 0 X) n 1 (c + 1) (n + 15)) (u3 (u3 (u3 I (n + 15) c h) n 0 X) n 1 (c + 1) (n + 1)) 0 0 8), ?_, fun a q1 q2 q3 => ?_, fun j q1 q2 => ?_, ?_, ?_, fun _ => ⟨?_, ?_, fun j q1 q2 => ?_⟩⟩
        · simp (disch := omega) only [b113_0, b113_7, b113_14, b113_39, b113_45, b113_52, e113, gO_W hW, gR_W2 hW, gR_W4 hW, gR_W5 hW, gR_W6 hW, gR_W7 hW, gR_W10 hW, gR_W11 hW, gR_W12 hW, al_W1 hW, al_W15 hW, al_W16 hW, al_W17 hW, al_W18 hW, al_W21 hW, al_W22 hW, al_W23 hW, rd_W1 hW, rd_W15 hW, rd_W16 hW, rd_W17 hW, rd_W18 hW, rd_W21 hW, rd_W22 hW, rd_W23 hW, gP_W hW hl, wr_W1 hW hl, wr_W15 hW hl, wr_W16 hW hl, wr_W17 hW hl, wr_W18 hW hl, wr_W21 hW hl, wr_W22 hW hl, wr_W23 hW hl, hcu, B0, u3_c, eX.symm, hac, cp_j, Jl0, Jl1, Jl2, Jl3, Jl4, Jl5, Jl6, Jl7, Jl8, Jl9, Jl10, Jl11, Jl12, Jl13, Jl14, Jl15, Jl16, Jl17, Jl18, Jl19, Jl20, Jl22, Jl24, Jl28, Jl30, Jl31, Jl32, Jl35, Jl36, Jl37, Jl38, Jl39, Jl40, Jl48, Jl57, Jl59, Jl60, Jl61, Jl63, Jl64, Jl68, Jl69, Jl96, Jl97, Jl98, Jl99, Jl100, Jl122, Jl149, Jl150, Jl165, Jl255, Jl511, Jl512, Jl600, Jl610, Jl940, Jl968, Jl999, Jl1134, Jl1152, Jl2048, Jl4608, Jl9999, Jl99999, Jl100000, Jl147456, Jl12345, Jl1103515245, Jl100000000, Jlm1, Jlm2, J_add, J_sub, J_mul, J_lt, J_le, J_eq, J_ite, J_cl, ri_j, wi_j, b2i_z, b2i_o, b2i_zo, Int.cast_ofNat_Int, Int.natCast_zero, Int.natCast_one, if_true, if_false, ite_self, Int.le_refl, J_bit, J_or, J_neg, J_oN, Int.reduceEq, Int.reduceLT, Int.reduceLE, Int.reduceNeg, Int.reduceAdd, Int.reduceSub, Int.reduceMul, Int.reduceToNat, J_shl, J_shr, V_ite, true_or, or_true, nz_j, J_div, J_rem, Option.bind_some, Option.toList_some, Option.toList_none, List.cons_append, List.nil_append, Jl21, Jl23, Jl25, Jl74, Jl83, Jl288, Jl324, Jl1800, Jlm8]
          repeat (first | rw [if_neg (by omega)] | rw [if_pos (by omega)])
        · rw [sA_n q2, u3_c q1, u3_c q1, u3_c q3]
        · rw [sA_n (by omega), u3_c (by omega), u3_c (by omega)]
          exact rw0 j q1 q2
        · rw [sA_n (by omega), u3_n (by omega), u3_s]
        · dsimp only; omega
        · rw [sA_n (by omega), u3_s]
        · dsimp only; omega
        · dsimp only at q2 ⊢
          rw [sA_s]
          unfold cpr
          rw [if_pos (by omega), show (0 : Int) + (j - 0) = j by omega, u3_c (by omega), u3_c (by omega)]
          exact rw0 j q1 (by omega)
      · rw [if_neg cX]
        refine ⟨u3 I (n + 15) c h, ?_, fun a q1 q2 q3 => u3_c q3, rw0, ?_, B1, fun z => ?_⟩
        · simp (disch := omega) only [b113_0, b113_7, b113_14, e113, gO_W hW, gR_W2 hW, gR_W4 hW, gR_W5 hW, gR_W6 hW, gR_W7 hW, gR_W10 hW, gR_W11 hW, gR_W12 hW, al_W1 hW, al_W15 hW, al_W16 hW, al_W17 hW, al_W18 hW, al_W21 hW, al_W22 hW, al_W23 hW, rd_W1 hW, rd_W15 hW, rd_W16 hW, rd_W17 hW, rd_W18 hW, rd_W21 hW, rd_W22 hW, rd_W23 hW, gP_W hW hl, wr_W1 hW hl, wr_W15 hW hl, wr_W16 hW hl, wr_W17 hW hl, wr_W18 hW hl, wr_W21 hW hl, wr_W22 hW hl, wr_W23 hW hl, hcu, B0, u3_c, eX.symm, Jl0, Jl1, Jl2, Jl3, Jl4, Jl5, Jl6, Jl7, Jl8, Jl9, Jl10, Jl11, Jl12, Jl13, Jl14, Jl15, Jl16, Jl17, Jl18, Jl19, Jl20, Jl22, Jl24, Jl28, Jl30, Jl31, Jl32, Jl35, Jl36, Jl37, Jl38, Jl39, Jl40, Jl48, Jl57, Jl59, Jl60, Jl61, Jl63, Jl64, Jl68, Jl69, Jl96, Jl97, Jl98, Jl99, Jl100, Jl122, Jl149, Jl150, Jl165, Jl255, Jl511, Jl512, Jl600, Jl610, Jl940, Jl968, Jl999, Jl1134, Jl1152, Jl2048, Jl4608, Jl9999, Jl99999, Jl100000, Jl147456, Jl12345, Jl1103515245, Jl100000000, Jlm1, Jlm2, J_add, J_sub, J_mul, J_lt, J_le, J_eq, J_ite, J_cl, ri_j, wi_j, b2i_z, b2i_o, b2i_zo, Int.cast_ofNat_Int, Int.natCast_zero, Int.natCast_one, if_true, if_false, ite_self, Int.le_refl, J_bit, J_or, J_neg, J_oN, Int.reduceEq, Int.reduceLT, Int.reduceLE, Int.reduceNeg, Int.reduceAdd, Int.reduceSub, Int.reduceMul, Int.reduceToNat, J_shl, J_shr, V_ite, true_or, or_true, nz_j, J_div, J_rem, Option.bind_some, Option.toList_some, Option.toList_none, List.cons_append, List.nil_append, Jl21, Jl23, Jl25, Jl74, Jl83, Jl288, Jl324, Jl1800, Jlm8]
          repeat (first | rw [if_neg (by omega)] | rw [if_pos (by omega)])
        · rw [u3_c (by omega)]; exact B0
        · rw [u3_c (by omega), u3_c (by omega)]; exact B2 z
    obtain ⟨I1, e1, r1, r2, r3⟩ := st1
    rw [e1]
    obtain ⟨b1, eb1⟩ : ∃ b1, b1 = (if b.1 < X then (X, c + 1, u1 row c h) else b) := ⟨_, rfl⟩
    rw [← eb1] at r3
    have edef : sdF S cq (m + 1) c h u vs sm0 row b = fo (fun k b => if S 1 (h * 8 + k) ≠ 0 ∧ u + S 1 (h * 8 + k) ≤ 35 ∧ tb v8 k = false then sdF S cq m (c + 1) k (u + S 1 (h * 8 + k)) v8 X (u1 row c h) b else b) b1 (S 0 0) := by
      rw [eb1, ev8, eX]
      rfl
    obtain ⟨stp, estp⟩ : ∃ stp, stp = (fun (k : Int) (b : Int × Int × (Int → Int)) => if S 1 (h * 8 + k) ≠ 0 ∧ u + S 1 (h * 8 + k) ≤ 35 ∧ tb v8 k = false then sdF S cq m (c + 1) k (u + S 1 (h * 8 + k)) v8 X (u1 row c h) b else b) := ⟨_, rfl⟩
    rw [edef, ← estp]
    have hSh := hS.1
    by_cases cp : b1.1 < X + ro
    · have i0 : I1 n 0 = b1.1 := r3.1
      have bb1 := r3.2.1
      have s2 : ex PG E lo d 113 67 [some (.ref n), some (.int (J (c))), some (.int (J (h))), some (.int (J (u))), some (.int (J (vs))), some (.int (J (sm0))), some (.int (J (ro))), some (.int (J (X))), none, none, none] [] (mj μ I1) = ex PG E lo d 113 91 [some (.ref n), some (.int (J (c))), some (.int (J (h))), some (.int (J (u))), some (.int (J (vs))), some (.int (J (sm0))), some (.int (J (ro))), some (.int (J (X))), some (.int (J (v8))), some (.int (J (0))), none] [] (mj μ I1) := by
        simp (disch := omega) only [b113_67, b113_80, gO_W hW, gR_W2 hW, gR_W4 hW, gR_W5 hW, gR_W6 hW, gR_W7 hW, gR_W10 hW, gR_W11 hW, gR_W12 hW, al_W1 hW, al_W15 hW, al_W16 hW, al_W17 hW, al_W18 hW, al_W21 hW, al_W22 hW, al_W23 hW, rd_W1 hW, rd_W15 hW, rd_W16 hW, rd_W17 hW, rd_W18 hW, rd_W21 hW, rd_W22 hW, rd_W23 hW, gP_W hW hl, wr_W1 hW hl, wr_W15 hW hl, wr_W16 hW hl, wr_W17 hW hl, wr_W18 hW hl, wr_W21 hW hl, wr_W22 hW hl, wr_W23 hW hl, i0, ev8.symm, Jl0, Jl1, Jl2, Jl3, Jl4, Jl5, Jl6, Jl7, Jl8, Jl9, Jl10, Jl11, Jl12, Jl13, Jl14, Jl15, Jl16, Jl17, Jl18, Jl19, Jl20, Jl22, Jl24, Jl28, Jl30, Jl31, Jl32, Jl35, Jl36, Jl37, Jl38, Jl39, Jl40, Jl48, Jl57, Jl59, Jl60, Jl61, Jl63, Jl64, Jl68, Jl69, Jl96, Jl97, Jl98, Jl99, Jl100, Jl122, Jl149, Jl150, Jl165, Jl255, Jl511, Jl512, Jl600, Jl610, Jl940, Jl968, Jl999, Jl1134, Jl1152, Jl2048, Jl4608, Jl9999, Jl99999, Jl100000, Jl147456, Jl12345, Jl1103515245, Jl100000000, Jlm1, Jlm2, J_add, J_sub, J_mul, J_lt, J_le, J_eq, J_ite, J_cl, ri_j, wi_j, b2i_z, b2i_o, b2i_zo, Int.cast_ofNat_Int, Int.natCast_zero, Int.natCast_one, if_true, if_false, ite_self, Int.le_refl, J_bit, J_or, J_neg, J_oN, Int.reduceEq, Int.reduceLT, Int.reduceLE, Int.reduceNeg, Int.reduceAdd, Int.reduceSub, Int.reduceMul, Int.reduceToNat, J_shl, J_shr, V_ite, true_or, or_true, nz_j, J_div, J_rem, Option.bind_some, Option.toList_some, Option.toList_none, List.cons_append, List.nil_append, Jl21, Jl23, Jl25, Jl74, Jl83, Jl288, Jl324, Jl1800, Jlm8]
        repeat (first | rw [if_neg (by omega)] | rw [if_pos (by omega)])
      rw [s2]
      obtain ⟨⟨I3, q10⟩, e3, f1, f2, f3⟩ := loop (fun k (t : (Nat → Int → Int) × Option Value) => ex PG E lo d 113 91 [some (.ref n), some (.int (J (c))), some (.int (J (h))), some (.int (J (u))), some (.int (J (vs))), some (.int (J (sm0))), some (.int (J (ro))), some (.int (J (X))), some (.int (J (v8))), some (.int (J (k))), t.2] [] (mj μ t.1)) (fun k t => (∀ a, a ≠ n → a ≠ n + 1 → a ≠ n + 15 → t.1 a = I a) ∧ (∀ j, 0 ≤ j → j ≤ c → t.1 (n + 15) j = u1 row c h j) ∧ BW t.1 n (fo stp b1 k)) (a := 0) (n := S 0 0) (fun k t g1 g2 hP => by
        obtain ⟨I4, q10⟩ := t
        dsimp only at hP ⊢
        obtain ⟨p1, p2', p3⟩ := hP
        have hS4 : AtS μ I4 s S := hS.fr (fun a _ _ => p1 a (by omega) (by omega) (by omega))
        have s0 : I4 s 0 = S 0 0 := by rw [vS_0 hS4]
        have hdu := du_sp (E := E) (lo := lo) (d := d) (x := h) (y := k) (by omega) hS4 (by omega) (by omega)
        have vd := hV.2.1 (h * 8 + k) (by omega) (by omega)
        rw [fo_s _ _ g1]
        by_cases c1 : S 1 (h * 8 + k) = 0
        · refine ⟨(I4, some (.int (J 0))), ?_, p1, p2', ?_⟩
          · dsimp only
            rw [b113_91]
            simp (disch := omega) only [b113_103, b113_113, b113_166, gO_W hW, gR_W2 hW, gR_W4 hW, gR_W5 hW, gR_W6 hW, gR_W7 hW, gR_W10 hW, gR_W11 hW, gR_W12 hW, al_W1 hW, al_W15 hW, al_W16 hW, al_W17 hW, al_W18 hW, al_W21 hW, al_W22 hW, al_W23 hW, rd_W1 hW, rd_W15 hW, rd_W16 hW, rd_W17 hW, rd_W18 hW, rd_W21 hW, rd_W22 hW, rd_W23 hW, gR_k hs, gO_S hSh, gR_S2 hSh, gR_S4 hSh, gR_S5 hSh, gR_S6 hSh, gR_S7 hSh, gR_S8 hSh, gR_S9 hSh, gR_S10 hSh, gR_S11 hSh, gR_S12 hSh, gR_S14 hSh, gR_S15 hSh, al_S1 hSh, al_S2 hSh, al_S3 hSh, al_S4 hSh, al_S5 hSh, al_S6 hSh, al_S7 hSh, al_S8 hSh, al_S9 hSh, al_S10 hSh, al_S11 hSh, al_S12 hSh, rd_S1 hSh, rd_S2 hSh, rd_S3 hSh, rd_S4 hSh, rd_S5 hSh, rd_S6 hSh, rd_S7 hSh, rd_S8 hSh, rd_S9 hSh, rd_S10 hSh, rd_S11 hSh, rd_S12 hSh, s0, hdu, c1, Jl0, Jl1, Jl2, Jl3, Jl4, Jl5, Jl6, Jl7, Jl8, Jl9, Jl10, Jl11, Jl12, Jl13, Jl14, Jl15, Jl16, Jl17, Jl18, Jl19, Jl20, Jl22, Jl24, Jl28, Jl30, Jl31, Jl32, Jl35, Jl36, Jl37, Jl38, Jl39, Jl40, Jl48, Jl57, Jl59, Jl60, Jl61, Jl63, Jl64, Jl68, Jl69, Jl96, Jl97, Jl98, Jl99, Jl100, Jl122, Jl149, Jl150, Jl165, Jl255, Jl511, Jl512, Jl600, Jl610, Jl940, Jl968, Jl999, Jl1134, Jl1152, Jl2048, Jl4608, Jl9999, Jl99999, Jl100000, Jl147456, Jl12345, Jl1103515245, Jl100000000, Jlm1, Jlm2, J_add, J_sub, J_mul, J_lt, J_le, J_eq, J_ite, J_cl, ri_j, wi_j, b2i_z, b2i_o, b2i_zo, Int.cast_ofNat_Int, Int.natCast_zero, Int.natCast_one, if_true, if_false, ite_self, Int.le_refl, J_bit, J_or, J_neg, J_oN, Int.reduceEq, Int.reduceLT, Int.reduceLE, Int.reduceNeg, Int.reduceAdd, Int.reduceSub, Int.reduceMul, Int.reduceToNat, J_shl, J_shr, V_ite, true_or, or_true, nz_j, J_div, J_rem, Option.bind_some, Option.toList_some, Option.toList_none, List.cons_append, List.nil_append, Jl21, Jl23, Jl25, Jl74, Jl83, Jl288, Jl324, Jl1800, Jlm8]
            repeat (first | rw [if_neg (by omega)] | rw [if_pos (by omega)])
          · rw [estp]
            dsimp only
            rw [if_neg (fun z => z.1 c1), ← estp]
            exact p3
        · by_cases c2 : u + S 1 (h * 8 + k) ≤ 35
          · cases c3 : tb v8 k with
            | true =>
              refine ⟨(I4, some (.int (J (S 1 (h * 8 + k))))), ?_, p1, p2', ?_⟩
              · dsimp only
                rw [b113_91]
                simp (disch := omega) only [b113_103, b113_113, b113_120, b113_129, b113_166, gO_W hW, gR_W2 hW, gR_W4 hW, gR_W5 hW, gR_W6 hW, gR_W7 hW, gR_W10 hW, gR_W11 hW, gR_W12 hW, al_W1 hW, al_W15 hW, al_W16 hW, al_W17 hW, al_W18 hW, al_W21 hW, al_W22 hW, al_W23 hW, rd_W1 hW, rd_W15 hW, rd_W16 hW, rd_W17 hW, rd_W18 hW, rd_W21 hW, rd_W22 hW, rd_W23 hW, gR_k hs, gO_S hSh, gR_S2 hSh, gR_S4 hSh, gR_S5 hSh, gR_S6 hSh, gR_S7 hSh, gR_S8 hSh, gR_S9 hSh, gR_S10 hSh, gR_S11 hSh, gR_S12 hSh, gR_S14 hSh, gR_S15 hSh, al_S1 hSh, al_S2 hSh, al_S3 hSh, al_S4 hSh, al_S5 hSh, al_S6 hSh, al_S7 hSh, al_S8 hSh, al_S9 hSh, al_S10 hSh, al_S11 hSh, al_S12 hSh, rd_S1 hSh, rd_S2 hSh, rd_S3 hSh, rd_S4 hSh, rd_S5 hSh, rd_S6 hSh, rd_S7 hSh, rd_S8 hSh, rd_S9 hSh, rd_S10 hSh, rd_S11 hSh, rd_S12 hSh, s0, hdu, c3, Bool.true_eq_false, Jl0, Jl1, Jl2, Jl3, Jl4, Jl5, Jl6, Jl7, Jl8, Jl9, Jl10, Jl11, Jl12, Jl13, Jl14, Jl15, Jl16, Jl17, Jl18, Jl19, Jl20, Jl22, Jl24, Jl28, Jl30, Jl31, Jl32, Jl35, Jl36, Jl37, Jl38, Jl39, Jl40, Jl48, Jl57, Jl59, Jl60, Jl61, Jl63, Jl64, Jl68, Jl69, Jl96, Jl97, Jl98, Jl99, Jl100, Jl122, Jl149, Jl150, Jl165, Jl255, Jl511, Jl512, Jl600, Jl610, Jl940, Jl968, Jl999, Jl1134, Jl1152, Jl2048, Jl4608, Jl9999, Jl99999, Jl100000, Jl147456, Jl12345, Jl1103515245, Jl100000000, Jlm1, Jlm2, J_add, J_sub, J_mul, J_lt, J_le, J_eq, J_ite, J_cl, ri_j, wi_j, b2i_z, b2i_o, b2i_zo, Int.cast_ofNat_Int, Int.natCast_zero, Int.natCast_one, if_true, if_false, ite_self, Int.le_refl, J_bit, J_or, J_neg, J_oN, Int.reduceEq, Int.reduceLT, Int.reduceLE, Int.reduceNeg, Int.reduceAdd, Int.reduceSub, Int.reduceMul, Int.reduceToNat, J_shl, J_shr, V_ite, true_or, or_true, nz_j, J_div, J_rem, Option.bind_some, Option.toList_some, Option.toList_none, List.cons_append, List.nil_append, Jl21, Jl23, Jl25, Jl74, Jl83, Jl288, Jl324, Jl1800, Jlm8]
                repeat (first | rw [if_neg (by omega)] | rw [if_pos (by omega)])
              · rw [estp]
                dsimp only
                rw [if_neg (fun z => by rw [c3] at z; cases z.2.2), ← estp]
                exact p3
            | false =>
              have k0 : k ≠ 0 := fun z => by rw [z, hz] at c3; cases c3
              have pk := p2_0 k
              have emo := moQ_s (S := S) (mq := fun k => mqQ cq k 36) sob.1 ⟨g1, g2⟩ c3
              obtain ⟨I5, e5, w1, w2, w3⟩ := ih d (c + 1) k (u + S 1 (h * 8 + k)) v8 X (u1 row c h) (fo stp b1 k) I4 (by omega) (by omega) (by omega) hS4 (fun h u z1 z2 z3 z4 => by rw [p1 _ (by omega) (by omega) (by omega)]; exact hch h u z1 z2 z3 z4) (fun k z1 z2 => by rw [p1 _ (by omega) (by omega) (by omega)]; exact hmo k z1 z2) ⟨g1, g2⟩ (by omega) sob (by rw [tb_so _ _ _ sob.1 (by omega), hz, Bool.true_or]) (by omega) (fun j z1 z2 => p2' j z1 (by omega)) p3
              have hmk : I4 (n + 17) k = mqQ cq k 36 := by rw [p1 _ (by omega) (by omega) (by omega)]; exact hmo k (by omega) g2
              rw [emo, ← ero] at e5
              have mk := hm0 k g1 g2
              refine ⟨(I5, some (.int (J (S 1 (h * 8 + k))))), ?_, fun a z1 z2 z3 => ?_, fun j z1 z2 => ?_, ?_⟩
              · dsimp only
                rw [b113_91]
                simp (disch := omega) only [b113_103, b113_113, b113_120, b113_129, b113_139, b113_166, gO_W hW, gR_W2 hW, gR_W4 hW, gR_W5 hW, gR_W6 hW, gR_W7 hW, gR_W10 hW, gR_W11 hW, gR_W12 hW, al_W1 hW, al_W15 hW, al_W16 hW, al_W17 hW, al_W18 hW, al_W21 hW, al_W22 hW, al_W23 hW, rd_W1 hW, rd_W15 hW, rd_W16 hW, rd_W17 hW, rd_W18 hW, rd_W21 hW, rd_W22 hW, rd_W23 hW, gR_k hs, gO_S hSh, gR_S2 hSh, gR_S4 hSh, gR_S5 hSh, gR_S6 hSh, gR_S7 hSh, gR_S8 hSh, gR_S9 hSh, gR_S10 hSh, gR_S11 hSh, gR_S12 hSh, gR_S14 hSh, gR_S15 hSh, al_S1 hSh, al_S2 hSh, al_S3 hSh, al_S4 hSh, al_S5 hSh, al_S6 hSh, al_S7 hSh, al_S8 hSh, al_S9 hSh, al_S10 hSh, al_S11 hSh, al_S12 hSh, rd_S1 hSh, rd_S2 hSh, rd_S3 hSh, rd_S4 hSh, rd_S5 hSh, rd_S6 hSh, rd_S7 hSh, rd_S8 hSh, rd_S9 hSh, rd_S10 hSh, rd_S11 hSh, rd_S12 hSh, s0, hdu, c3, hmk, e5, Jl0, Jl1, Jl2, Jl3, Jl4, Jl5, Jl6, Jl7, Jl8, Jl9, Jl10, Jl11, Jl12, Jl13, Jl14, Jl15, Jl16, Jl17, Jl18, Jl19, Jl20, Jl22, Jl24, Jl28, Jl30, Jl31, Jl32, Jl35, Jl36, Jl37, Jl38, Jl39, Jl40, Jl48, Jl57, Jl59, Jl60, Jl61, Jl63, Jl64, Jl68, Jl69, Jl96, Jl97, Jl98, Jl99, Jl100, Jl122, Jl149, Jl150, Jl165, Jl255, Jl511, Jl512, Jl600, Jl610, Jl940, Jl968, Jl999, Jl1134, Jl1152, Jl2048, Jl4608, Jl9999, Jl99999, Jl100000, Jl147456, Jl12345, Jl1103515245, Jl100000000, Jlm1, Jlm2, J_add, J_sub, J_mul, J_lt, J_le, J_eq, J_ite, J_cl, ri_j, wi_j, b2i_z, b2i_o, b2i_zo, Int.cast_ofNat_Int, Int.natCast_zero, Int.natCast_one, if_true, if_false, ite_self, Int.le_refl, J_bit, J_or, J_neg, J_oN, Int.reduceEq, Int.reduceLT, Int.reduceLE, Int.reduceNeg, Int.reduceAdd, Int.reduceSub, Int.reduceMul, Int.reduceToNat, J_shl, J_shr, V_ite, true_or, or_true, nz_j, J_div, J_rem, Option.bind_some, Option.toList_some, Option.toList_none, List.cons_append, List.nil_append, Jl21, Jl23, Jl25, Jl74, Jl83, Jl288, Jl324, Jl1800, Jlm8]
                repeat (first | rw [if_neg (by omega)] | rw [if_pos (by omega)])
              · dsimp only
                rw [w1 a z1 z2 z3]; exact p1 a z1 z2 z3
              · dsimp only
                rw [w2 j z1 (by omega)]; exact p2' j z1 z2
              · have es : stp k (fo stp b1 k) = sdF S cq m (c + 1) k (u + S 1 (h * 8 + k)) v8 X (u1 row c h) (fo stp b1 k) := by
                  rw [estp]
                  exact if_pos ⟨c1, c2, c3⟩
                rw [es]
                exact w3
          · refine ⟨(I4, some (.int (J (S 1 (h * 8 + k))))), ?_, p1, p2', ?_⟩
            · dsimp only
              rw [b113_91]
              simp (disch := omega) only [b113_103, b113_113, b113_120, b113_166, gO_W hW, gR_W2 hW, gR_W4 hW, gR_W5 hW, gR_W6 hW, gR_W7 hW, gR_W10 hW, gR_W11 hW, gR_W12 hW, al_W1 hW, al_W15 hW, al_W16 hW, al_W17 hW, al_W18 hW, al_W21 hW, al_W22 hW, al_W23 hW, rd_W1 hW, rd_W15 hW, rd_W16 hW, rd_W17 hW, rd_W18 hW, rd_W21 hW, rd_W22 hW, rd_W23 hW, gR_k hs, gO_S hSh, gR_S2 hSh, gR_S4 hSh, gR_S5 hSh, gR_S6 hSh, gR_S7 hSh, gR_S8 hSh, gR_S9 hSh, gR_S10 hSh, gR_S11 hSh, gR_S12 hSh, gR_S14 hSh, gR_S15 hSh, al_S1 hSh, al_S2 hSh, al_S3 hSh, al_S4 hSh, al_S5 hSh, al_S6 hSh, al_S7 hSh, al_S8 hSh, al_S9 hSh, al_S10 hSh, al_S11 hSh, al_S12 hSh, rd_S1 hSh, rd_S2 hSh, rd_S3 hSh, rd_S4 hSh, rd_S5 hSh, rd_S6 hSh, rd_S7 hSh, rd_S8 hSh, rd_S9 hSh, rd_S10 hSh, rd_S11 hSh, rd_S12 hSh, s0, hdu, Jl0, Jl1, Jl2, Jl3, Jl4, Jl5, Jl6, Jl7, Jl8, Jl9, Jl10, Jl11, Jl12, Jl13, Jl14, Jl15, Jl16, Jl17, Jl18, Jl19, Jl20, Jl22, Jl24, Jl28, Jl30, Jl31, Jl32, Jl35, Jl36, Jl37, Jl38, Jl39, Jl40, Jl48, Jl57, Jl59, Jl60, Jl61, Jl63, Jl64, Jl68, Jl69, Jl96, Jl97, Jl98, Jl99, Jl100, Jl122, Jl149, Jl150, Jl165, Jl255, Jl511, Jl512, Jl600, Jl610, Jl940, Jl968, Jl999, Jl1134, Jl1152, Jl2048, Jl4608, Jl9999, Jl99999, Jl100000, Jl147456, Jl12345, Jl1103515245, Jl100000000, Jlm1, Jlm2, J_add, J_sub, J_mul, J_lt, J_le, J_eq, J_ite, J_cl, ri_j, wi_j, b2i_z, b2i_o, b2i_zo, Int.cast_ofNat_Int, Int.natCast_zero, Int.natCast_one, if_true, if_false, ite_self, Int.le_refl, J_bit, J_or, J_neg, J_oN, Int.reduceEq, Int.reduceLT, Int.reduceLE, Int.reduceNeg, Int.reduceAdd, Int.reduceSub, Int.reduceMul, Int.reduceToNat, J_shl, J_shr, V_ite, true_or, or_true, nz_j, J_div, J_rem, Option.bind_some, Option.toList_some, Option.toList_none, List.cons_append, List.nil_append, Jl21, Jl23, Jl25, Jl74, Jl83, Jl288, Jl324, Jl1800, Jlm8]
              repeat (first | rw [if_neg (by omega)] | rw [if_pos (by omega)])
            · rw [estp]
              dsimp only
              rw [if_neg (fun z => c2 z.2.1), ← estp]
              exact p3) (by omega) (I1, none) ⟨r1, r2, r3⟩
      dsimp only at e3 f1 f2 f3
      have hS3 : AtS μ I3 s S := hS.fr (fun a _ _ => f1 a (by omega) (by omega) (by omega))
      have s0 : I3 s 0 = S 0 0 := by rw [vS_0 hS3]
      refine ⟨I3, ?_, f1, fun j q1 q2 => ?_, f3⟩
      · rw [e3, b113_91]
        simp (disch := omega) only [b113_172, gO_W hW, gR_W2 hW, gR_W4 hW, gR_W5 hW, gR_W6 hW, gR_W7 hW, gR_W10 hW, gR_W11 hW, gR_W12 hW, al_W1 hW, al_W15 hW, al_W16 hW, al_W17 hW, al_W18 hW, al_W21 hW, al_W22 hW, al_W23 hW, rd_W1 hW, rd_W15 hW, rd_W16 hW, rd_W17 hW, rd_W18 hW, rd_W21 hW, rd_W22 hW, rd_W23 hW, gR_k hs, gO_S hSh, gR_S2 hSh, gR_S4 hSh, gR_S5 hSh, gR_S6 hSh, gR_S7 hSh, gR_S8 hSh, gR_S9 hSh, gR_S10 hSh, gR_S11 hSh, gR_S12 hSh, gR_S14 hSh, gR_S15 hSh, al_S1 hSh, al_S2 hSh, al_S3 hSh, al_S4 hSh, al_S5 hSh, al_S6 hSh, al_S7 hSh, al_S8 hSh, al_S9 hSh, al_S10 hSh, al_S11 hSh, al_S12 hSh, rd_S1 hSh, rd_S2 hSh, rd_S3 hSh, rd_S4 hSh, rd_S5 hSh, rd_S6 hSh, rd_S7 hSh, rd_S8 hSh, rd_S9 hSh, rd_S10 hSh, rd_S11 hSh, rd_S12 hSh, s0, Jl0, Jl1, Jl2, Jl3, Jl4, Jl5, Jl6, Jl7, Jl8, Jl9, Jl10, Jl11, Jl12, Jl13, Jl14, Jl15, Jl16, Jl17, Jl18, Jl19, Jl20, Jl22, Jl24, Jl28, Jl30, Jl31, Jl32, Jl35, Jl36, Jl37, Jl38, Jl39, Jl40, Jl48, Jl57, Jl59, Jl60, Jl61, Jl63, Jl64, Jl68, Jl69, Jl96, Jl97, Jl98, Jl99, Jl100, Jl122, Jl149, Jl150, Jl165, Jl255, Jl511, Jl512, Jl600, Jl610, Jl940, Jl968, Jl999, Jl1134, Jl1152, Jl2048, Jl4608, Jl9999, Jl99999, Jl100000, Jl147456, Jl12345, Jl1103515245, Jl100000000, Jlm1, Jlm2, J_add, J_sub, J_mul, J_lt, J_le, J_eq, J_ite, J_cl, ri_j, wi_j, b2i_z, b2i_o, b2i_zo, Int.cast_ofNat_Int, Int.natCast_zero, Int.natCast_one, if_true, if_false, ite_self, Int.le_refl, J_bit, J_or, J_neg, J_oN, Int.reduceEq, Int.reduceLT, Int.reduceLE, Int.reduceNeg, Int.reduceAdd, Int.reduceSub, Int.reduceMul, Int.reduceToNat, J_shl, J_shr, V_ite, true_or, or_true, nz_j, J_div, J_rem, Option.bind_some, Option.toList_some, Option.toList_none, List.cons_append, List.nil_append, Jl21, Jl23, Jl25, Jl74, Jl83, Jl288, Jl324, Jl1800, Jlm8]
      · rw [f2 j q1 (by omega), u1_n (by omega)]
        exact (hrow j q1 q2).symm
    · have e9 : fo stp b1 (S 0 0) = b1 := by
        refine fo_ind (fun _ x => x = b1) _ _ (by omega) rfl (fun k x q1 q2 q3 => ?_)
        subst q3
        rw [estp]
        dsimp only
        split
        · rename_i cc
          have vd := hV.2.1 (h * 8 + k) (by omega) (by omega)
          have emo := moQ_s (S := S) (mq := fun k => mqQ cq k 36) sob.1 ⟨q1, q2⟩ cc.2.2
          have := hmm k (u + S 1 (h * 8 + k)) q1 q2 (by omega) (by omega)
          exact sdF_p hV (mq := fun k => mqQ cq k 36) hmm hm0 m _ _ _ _ _ _ _ ⟨q1, q2⟩ (by omega) sob.1 (by rw [emo, ← ero]; omega)
        · rfl
      rw [e9]
      have i0 : I1 n 0 = b1.1 := r3.1
      have bb1 := r3.2.1
      refine ⟨I1, ?_, r1, fun j q1 q2 => ?_, r3⟩
      · simp (disch := omega) only [b113_67, b113_79, gO_W hW, gR_W2 hW, gR_W4 hW, gR_W5 hW, gR_W6 hW, gR_W7 hW, gR_W10 hW, gR_W11 hW, gR_W12 hW, al_W1 hW, al_W15 hW, al_W16 hW, al_W17 hW, al_W18 hW, al_W21 hW, al_W22 hW, al_W23 hW, rd_W1 hW, rd_W15 hW, rd_W16 hW, rd_W17 hW, rd_W18 hW, rd_W21 hW, rd_W22 hW, rd_W23 hW, gP_W hW hl, wr_W1 hW hl, wr_W15 hW hl, wr_W16 hW hl, wr_W17 hW hl, wr_W18 hW hl, wr_W21 hW hl, wr_W22 hW hl, wr_W23 hW hl, i0, Jl0, Jl1, Jl2, Jl3, Jl4, Jl5, Jl6, Jl7, Jl8, Jl9, Jl10, Jl11, Jl12, Jl13, Jl14, Jl15, Jl16, Jl17, Jl18, Jl19, Jl20, Jl22, Jl24, Jl28, Jl30, Jl31, Jl32, Jl35, Jl36, Jl37, Jl38, Jl39, Jl40, Jl48, Jl57, Jl59, Jl60, Jl61, Jl63, Jl64, Jl68, Jl69, Jl96, Jl97, Jl98, Jl99, Jl100, Jl122, Jl149, Jl150, Jl165, Jl255, Jl511, Jl512, Jl600, Jl610, Jl940, Jl968, Jl999, Jl1134, Jl1152, Jl2048, Jl4608, Jl9999, Jl99999, Jl100000, Jl147456, Jl12345, Jl1103515245, Jl100000000, Jlm1, Jlm2, J_add, J_sub, J_mul, J_lt, J_le, J_eq, J_ite, J_cl, ri_j, wi_j, b2i_z, b2i_o, b2i_zo, Int.cast_ofNat_Int, Int.natCast_zero, Int.natCast_one, if_true, if_false, ite_self, Int.le_refl, J_bit, J_or, J_neg, J_oN, Int.reduceEq, Int.reduceLT, Int.reduceLE, Int.reduceNeg, Int.reduceAdd, Int.reduceSub, Int.reduceMul, Int.reduceToNat, J_shl, J_shr, V_ite, true_or, or_true, nz_j, J_div, J_rem, Option.bind_some, Option.toList_some, Option.toList_none, List.cons_append, List.nil_append, Jl21, Jl23, Jl25, Jl74, Jl83, Jl288, Jl324, Jl1800, Jlm8]
        repeat (first | rw [if_neg (by omega)] | rw [if_pos (by omega)])
      · rw [r2 j q1 (by omega), u1_n (by omega)]
        exact (hrow j q1 q2).symm
end CLASS
