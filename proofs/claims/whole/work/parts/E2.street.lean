/-! STREETS of the class -/
/-- the first one, -1 if there is none -/
def fi (p : Int → Bool) (n : Int) : Int := fo (fun i x => if x = -1 ∧ p i = true then i else x) (-1) n
theorem fi_0 (p : Int → Bool) : fi p 0 = -1 := rfl
theorem fi_s (p : Int → Bool) {n : Int} (h : 0 ≤ n) : fi p (n + 1) = if fi p n = -1 ∧ p n = true then n else fi p n := fo_s _ _ h
theorem fi_sp (p : Int → Bool) {n : Int} (hn : 0 ≤ n) : (fi p n = -1 ∧ ∀ i, 0 ≤ i → i < n → p i = false) ∨ (0 ≤ fi p n ∧ fi p n < n ∧ p (fi p n) = true ∧ ∀ i, 0 ≤ i → i < fi p n → p i = false) := by
  refine fo_ind (fun m x => (x = -1 ∧ ∀ i, 0 ≤ i → i < m → p i = false) ∨ (0 ≤ x ∧ x < m ∧ p x = true ∧ ∀ i, 0 ≤ i → i < x → p i = false)) _ _ hn ?_ ?_
  · exact Or.inl ⟨rfl, fun i h1 h2 => by omega⟩
  · intro m x h1 h2 h3
    by_cases hx : x = -1
    · rcases h3 with h3 | h3
      · by_cases hp : p m = true
        · rw [if_pos ⟨hx, hp⟩]
          exact Or.inr ⟨h1, by omega, hp, h3.2⟩
        · rw [if_neg (fun q => hp q.2)]
          refine Or.inl ⟨hx, fun i q1 q2 => ?_⟩
          by_cases hi : i = m
          · subst hi; exact Bool.eq_false_iff.mpr hp
          · exact h3.2 i q1 (by omega)
      · omega
    · rw [if_neg (fun q => hx q.1)]
      rcases h3 with h3 | h3
      · exact absurd h3.1 hx
      · exact Or.inr ⟨h3.1, by omega, h3.2.2.1, h3.2.2.2⟩
/-- a loop that is left at the first one -/
theorem fi_loop {α : Type} (f g : Int → α) (p : Int → Bool) {n : Int} (hn : 0 ≤ n) (h : ∀ i, 0 ≤ i → i < n → f i = if p i = true then g i else f (i + 1)) : f 0 = if fi p n = -1 then f n else g (fi p n) := by
  rcases fi_sp p hn with ⟨h1, h2⟩ | ⟨h1, h2, h3, h4⟩
  · rw [if_pos h1]
    exact tele f (fun i q1 q2 => by rw [h i q1 q2, h2 i q1 q2]; rfl) hn
  · rw [if_neg (by omega)]
    rw [tele f (n := fi p n) (fun i q1 q2 => by rw [h i q1 (by omega), h4 i q1 q2]; rfl) h1, h _ h1 h2, h3]
    rfl
theorem mul_b {a b A B : Int} (ha : 0 ≤ a ∧ a ≤ A) (hb : -B ≤ b ∧ b ≤ B) : -(A * B) ≤ a * b ∧ a * b ≤ A * B := by
  have hB : 0 ≤ B := by omega
  have h1 : a * b ≤ a * B := Int.mul_le_mul_of_nonneg_left hb.2 ha.1
  have h2 : a * B ≤ A * B := Int.mul_le_mul_of_nonneg_right ha.2 hB
  have h3 : a * (-B) ≤ a * b := Int.mul_le_mul_of_nonneg_left hb.1 ha.1
  have h4 : a * (-B) = -(a * B) := Int.mul_neg a B
  omega
/-- what a street's numbers can be -/
def SV (S : Nat → Int → Int) : Prop :=
  (1 ≤ S 0 0 ∧ S 0 0 ≤ 8 ∧ 0 ≤ S 0 1 ∧ S 0 1 < 256 ∧ 0 ≤ S 0 3 ∧ S 0 3 ≤ 9 ∧ 0 ≤ S 0 13 ∧ S 0 13 ≤ 9)
  ∧ (∀ i, 0 ≤ i → i < 64 → 0 ≤ S 1 i ∧ S 1 i ≤ 9)
  ∧ (∀ k, 0 ≤ k → k < S 0 3 → (0 ≤ S 2 k ∧ S 2 k ≤ 3) ∧ (0 ≤ S 3 k ∧ S 3 k ≤ 7) ∧ (0 ≤ S 4 k ∧ S 4 k ≤ 3) ∧ (0 ≤ S 5 k ∧ S 5 k ≤ 35) ∧ (1 ≤ S 6 k ∧ S 6 k ≤ 36 ∧ S 5 k < S 6 k) ∧ (1 ≤ S 7 k ∧ S 7 k ≤ 9) ∧ (0 ≤ S 8 k ∧ S 8 k ≤ 60) ∧ (-1 ≤ S 9 k ∧ S 9 k ≤ 35) ∧ (-1 ≤ S 10 k ∧ S 10 k ≤ 8))
  ∧ (∀ i, 0 ≤ i → i < S 0 13 → (0 ≤ S 11 i ∧ S 11 i ≤ 8) ∧ (0 ≤ S 12 i ∧ S 12 i ≤ 35))
def wb1 (S : Nat → Int → Int) (k x y i : Int) : Int := if S 11 i = k ∧ x ≤ S 12 i ∧ S 12 i ≤ y then 1 else 0
/-- wines between two units -/
def wbS (S : Nat → Int → Int) (k x y : Int) : Int := sm (wb1 S k x y) (S 0 13)
/-- when he gets up -/
def upS (S : Nat → Int → Int) (k : Int) : Int := if 0 < wbS S k (S 6 k - 8) (S 6 k - 1) then (if S 6 k + 2 < 36 then S 6 k + 2 else 36) else S 6 k
def poS (S : Nat → Int → Int) (k u : Int) : Bool := decide (S 9 k ≠ -1 ∧ S 9 k ≤ u)
/-- how deep, lain down or woken at w -/
def dsS (S : Nat → Int → Int) (k u w : Int) : Int :=
  if u ≤ w then 0 else
  let m := if poS S k u = true then S 8 k + 9 else S 8 k
  let v := (if S 7 k * (u - w) < m then S 7 k * (u - w) else m) + 3 * wbS S k (u - 5) u
  if S 2 k = 1 then (if 0 < v - 1 then v - 1 else 0) else v
def asS (S : Nat → Int → Int) (k u : Int) : Bool := decide (S 5 k ≤ u ∧ u < upS S k)
def duS (S : Nat → Int → Int) (k u : Int) : Int := if asS S k u = true then dsS S k u (S 5 k) else -1
def siS (S : Nat → Int → Int) (k : Int) : Int := fi (fun j => decide (S 10 j = k ∧ S 2 k = 3)) (S 0 3)
theorem wbS_b {S : Nat → Int → Int} (hV : SV S) (k x y : Int) : 0 ≤ wbS S k x y ∧ wbS S k x y ≤ 9 := by
  have h := hV.1
  have := sm_b (wb1 S k x y) (n := S 0 13) (A := 0) (B := 1) (by omega) (fun i _ _ => by unfold wb1; split <;> omega)
  unfold wbS
  omega
theorem upS_b {S : Nat → Int → Int} (hV : SV S) {k : Int} (hk : 0 ≤ k ∧ k < S 0 3) : 1 ≤ upS S k ∧ upS S k ≤ 36 := by
  have h := hV.2.2.1 k hk.1 hk.2
  unfold upS
  grind
theorem upS_r {S : Nat → Int → Int} (hV : SV S) {k : Int} (hk : 0 ≤ k ∧ k < S 0 3) : S 6 k ≤ upS S k := by
  have h := hV.2.2.1 k hk.1 hk.2
  unfold upS
  grind
section STREET
variable {E : (Nat → Value) × (Nat → Nat)} {lo d b : Nat} {μ : rM} {I S : Nat → Int → Int} {k u x y h w : Int}
theorem hh_sp (hd : 1 ≤ d) (hS : AtS μ I b S) (hV : SV S) (hx : -2147483648 ≤ x ∧ x < 2147483648) : cl E lo d 80 [.ref b, .int (J (x))] (mj μ I) = some (some (.int (J (b2i (decide (0 ≤ x ∧ x < S 0 0))))), mj μ I) := by
  obtain ⟨d, rfl⟩ : ∃ e, d = e + 1 := ⟨d - 1, by omega⟩
  have := hV.1
  simp (disch := omega) only [e80, b80_0, b80_4, b80_12, b80_16, b80_17, gO_S hS.1, gR_S2 hS.1, gR_S4 hS.1, gR_S5 hS.1, gR_S6 hS.1, gR_S7 hS.1, gR_S8 hS.1, gR_S9 hS.1, gR_S10 hS.1, gR_S11 hS.1, gR_S12 hS.1, gR_S14 hS.1, gR_S15 hS.1, al_S1 hS.1, al_S2 hS.1, al_S3 hS.1, al_S4 hS.1, al_S5 hS.1, al_S6 hS.1, al_S7 hS.1, al_S8 hS.1, al_S9 hS.1, al_S10 hS.1, al_S11 hS.1, al_S12 hS.1, rd_S1 hS.1, rd_S2 hS.1, rd_S3 hS.1, rd_S4 hS.1, rd_S5 hS.1, rd_S6 hS.1, rd_S7 hS.1, rd_S8 hS.1, rd_S9 hS.1, rd_S10 hS.1, rd_S11 hS.1, rd_S12 hS.1, vS_0 hS, vS_1 hS, vS_2 hS, vS_3 hS, vS_4 hS, vS_5 hS, vS_6 hS, vS_7 hS, vS_8 hS, vS_9 hS, vS_10 hS, vS_11 hS, vS_12 hS, Jl0, Jl1, Jl2, Jl3, Jl4, Jl5, Jl6, Jl7, Jl8, Jl9, Jl10, Jl11, Jl12, Jl13, Jl14, Jl15, Jl16, Jl17, Jl18, Jl19, Jl20, Jl22, Jl24, Jl28, Jl30, Jl31, Jl32, Jl35, Jl36, Jl37, Jl38, Jl39, Jl40, Jl48, Jl57, Jl59, Jl60, Jl61, Jl63, Jl64, Jl68, Jl69, Jl96, Jl97, Jl98, Jl99, Jl100, Jl122, Jl149, Jl150, Jl165, Jl255, Jl511, Jl512, Jl600, Jl610, Jl940, Jl968, Jl999, Jl1134, Jl1152, Jl2048, Jl4608, Jl9999, Jl99999, Jl100000, Jl147456, Jl12345, Jl1103515245, Jl100000000, Jlm1, Jlm2, J_add, J_sub, J_mul, J_lt, J_le, J_eq, J_ite, J_cl, ri_j, wi_j, b2i_z, b2i_o, b2i_zo, Int.cast_ofNat_Int, Int.natCast_zero, Int.natCast_one, if_true, if_false, ite_self, Int.le_refl, J_bit, J_or, J_neg, J_oN, Int.reduceEq, Int.reduceLT, Int.reduceLE, Int.reduceNeg, Int.reduceAdd, Int.reduceSub, Int.reduceMul, Int.reduceToNat, J_shl, J_shr, V_ite, true_or, or_true, nz_j, J_div, J_rem, Option.bind_some, Option.toList_some, Option.toList_none, List.cons_append, List.nil_append]
  refine V_ok _ ?_
  grind [b2i]
theorem hs_sp (hd : 1 ≤ d) (hS : AtS μ I b S) (hV : SV S) (hx : -2147483648 ≤ x ∧ x < 2147483648) : cl E lo d 81 [.ref b, .int (J (x))] (mj μ I) = some (some (.int (J (b2i (decide (0 ≤ x ∧ x < S 0 3))))), mj μ I) := by
  obtain ⟨d, rfl⟩ : ∃ e, d = e + 1 := ⟨d - 1, by omega⟩
  have := hV.1
  simp (disch := omega) only [e81, b81_0, b81_4, b81_12, b81_16, b81_17, gO_S hS.1, gR_S2 hS.1, gR_S4 hS.1, gR_S5 hS.1, gR_S6 hS.1, gR_S7 hS.1, gR_S8 hS.1, gR_S9 hS.1, gR_S10 hS.1, gR_S11 hS.1, gR_S12 hS.1, gR_S14 hS.1, gR_S15 hS.1, al_S1 hS.1, al_S2 hS.1, al_S3 hS.1, al_S4 hS.1, al_S5 hS.1, al_S6 hS.1, al_S7 hS.1, al_S8 hS.1, al_S9 hS.1, al_S10 hS.1, al_S11 hS.1, al_S12 hS.1, rd_S1 hS.1, rd_S2 hS.1, rd_S3 hS.1, rd_S4 hS.1, rd_S5 hS.1, rd_S6 hS.1, rd_S7 hS.1, rd_S8 hS.1, rd_S9 hS.1, rd_S10 hS.1, rd_S11 hS.1, rd_S12 hS.1, vS_0 hS, vS_1 hS, vS_2 hS, vS_3 hS, vS_4 hS, vS_5 hS, vS_6 hS, vS_7 hS, vS_8 hS, vS_9 hS, vS_10 hS, vS_11 hS, vS_12 hS, Jl0, Jl1, Jl2, Jl3, Jl4, Jl5, Jl6, Jl7, Jl8, Jl9, Jl10, Jl11, Jl12, Jl13, Jl14, Jl15, Jl16, Jl17, Jl18, Jl19, Jl20, Jl22, Jl24, Jl28, Jl30, Jl31, Jl32, Jl35, Jl36, Jl37, Jl38, Jl39, Jl40, Jl48, Jl57, Jl59, Jl60, Jl61, Jl63, Jl64, Jl68, Jl69, Jl96, Jl97, Jl98, Jl99, Jl100, Jl122, Jl149, Jl150, Jl165, Jl255, Jl511, Jl512, Jl600, Jl610, Jl940, Jl968, Jl999, Jl1134, Jl1152, Jl2048, Jl4608, Jl9999, Jl99999, Jl100000, Jl147456, Jl12345, Jl1103515245, Jl100000000, Jlm1, Jlm2, J_add, J_sub, J_mul, J_lt, J_le, J_eq, J_ite, J_cl, ri_j, wi_j, b2i_z, b2i_o, b2i_zo, Int.cast_ofNat_Int, Int.natCast_zero, Int.natCast_one, if_true, if_false, ite_self, Int.le_refl, J_bit, J_or, J_neg, J_oN, Int.reduceEq, Int.reduceLT, Int.reduceLE, Int.reduceNeg, Int.reduceAdd, Int.reduceSub, Int.reduceMul, Int.reduceToNat, J_shl, J_shr, V_ite, true_or, or_true, nz_j, J_div, J_rem, Option.bind_some, Option.toList_some, Option.toList_none, List.cons_append, List.nil_append]
  refine V_ok _ ?_
  grind [b2i]
theorem du_sp (hd : 1 ≤ d) (hS : AtS μ I b S) (hx : 0 ≤ x ∧ x < 8) (hy : 0 ≤ y ∧ y < 8) : cl E lo d 83 [.ref b, .int (J (x)), .int (J (y))] (mj μ I) = some (some (.int (J (S 1 (x * 8 + y)))), mj μ I) := by
  obtain ⟨d, rfl⟩ : ∃ e, d = e + 1 := ⟨d - 1, by omega⟩
  simp (disch := omega) only [e83, b83_0, gO_S hS.1, gR_S2 hS.1, gR_S4 hS.1, gR_S5 hS.1, gR_S6 hS.1, gR_S7 hS.1, gR_S8 hS.1, gR_S9 hS.1, gR_S10 hS.1, gR_S11 hS.1, gR_S12 hS.1, gR_S14 hS.1, gR_S15 hS.1, al_S1 hS.1, al_S2 hS.1, al_S3 hS.1, al_S4 hS.1, al_S5 hS.1, al_S6 hS.1, al_S7 hS.1, al_S8 hS.1, al_S9 hS.1, al_S10 hS.1, al_S11 hS.1, al_S12 hS.1, rd_S1 hS.1, rd_S2 hS.1, rd_S3 hS.1, rd_S4 hS.1, rd_S5 hS.1, rd_S6 hS.1, rd_S7 hS.1, rd_S8 hS.1, rd_S9 hS.1, rd_S10 hS.1, rd_S11 hS.1, rd_S12 hS.1, vS_0 hS, vS_1 hS, vS_2 hS, vS_3 hS, vS_4 hS, vS_5 hS, vS_6 hS, vS_7 hS, vS_8 hS, vS_9 hS, vS_10 hS, vS_11 hS, vS_12 hS, Jl0, Jl1, Jl2, Jl3, Jl4, Jl5, Jl6, Jl7, Jl8, Jl9, Jl10, Jl11, Jl12, Jl13, Jl14, Jl15, Jl16, Jl17, Jl18, Jl19, Jl20, Jl22, Jl24, Jl28, Jl30, Jl31, Jl32, Jl35, Jl36, Jl37, Jl38, Jl39, Jl40, Jl48, Jl57, Jl59, Jl60, Jl61, Jl63, Jl64, Jl68, Jl69, Jl96, Jl97, Jl98, Jl99, Jl100, Jl122, Jl149, Jl150, Jl165, Jl255, Jl511, Jl512, Jl600, Jl610, Jl940, Jl968, Jl999, Jl1134, Jl1152, Jl2048, Jl4608, Jl9999, Jl99999, Jl100000, Jl147456, Jl12345, Jl1103515245, Jl100000000, Jlm1, Jlm2, J_add, J_sub, J_mul, J_lt, J_le, J_eq, J_ite, J_cl, ri_j, wi_j, b2i_z, b2i_o, b2i_zo, Int.cast_ofNat_Int, Int.natCast_zero, Int.natCast_one, if_true, if_false, ite_self, Int.le_refl, J_bit, J_or, J_neg, J_oN, Int.reduceEq, Int.reduceLT, Int.reduceLE, Int.reduceNeg, Int.reduceAdd, Int.reduceSub, Int.reduceMul, Int.reduceToNat, J_shl, J_shr, V_ite, true_or, or_true, nz_j, J_div, J_rem, Option.bind_some, Option.toList_some, Option.toList_none, List.cons_append, List.nil_append]
theorem hc_sp (hd : 1 ≤ d) (hS : AtS μ I b S) (hV : SV S) (hx : 0 ≤ x ∧ x < 8) : cl E lo d 84 [.ref b, .int (J (x))] (mj μ I) = some (some (.int (J (b2i (tb (S 0 1) x)))), mj μ I) := by
  obtain ⟨d, rfl⟩ : ∃ e, d = e + 1 := ⟨d - 1, by omega⟩
  have := hV.1
  simp (disch := omega) only [e84, b84_0, b84_11, b84_15, b84_16, gO_S hS.1, gR_S2 hS.1, gR_S4 hS.1, gR_S5 hS.1, gR_S6 hS.1, gR_S7 hS.1, gR_S8 hS.1, gR_S9 hS.1, gR_S10 hS.1, gR_S11 hS.1, gR_S12 hS.1, gR_S14 hS.1, gR_S15 hS.1, al_S1 hS.1, al_S2 hS.1, al_S3 hS.1, al_S4 hS.1, al_S5 hS.1, al_S6 hS.1, al_S7 hS.1, al_S8 hS.1, al_S9 hS.1, al_S10 hS.1, al_S11 hS.1, al_S12 hS.1, rd_S1 hS.1, rd_S2 hS.1, rd_S3 hS.1, rd_S4 hS.1, rd_S5 hS.1, rd_S6 hS.1, rd_S7 hS.1, rd_S8 hS.1, rd_S9 hS.1, rd_S10 hS.1, rd_S11 hS.1, rd_S12 hS.1, vS_0 hS, vS_1 hS, vS_2 hS, vS_3 hS, vS_4 hS, vS_5 hS, vS_6 hS, vS_7 hS, vS_8 hS, vS_9 hS, vS_10 hS, vS_11 hS, vS_12 hS, Jl0, Jl1, Jl2, Jl3, Jl4, Jl5, Jl6, Jl7, Jl8, Jl9, Jl10, Jl11, Jl12, Jl13, Jl14, Jl15, Jl16, Jl17, Jl18, Jl19, Jl20, Jl22, Jl24, Jl28, Jl30, Jl31, Jl32, Jl35, Jl36, Jl37, Jl38, Jl39, Jl40, Jl48, Jl57, Jl59, Jl60, Jl61, Jl63, Jl64, Jl68, Jl69, Jl96, Jl97, Jl98, Jl99, Jl100, Jl122, Jl149, Jl150, Jl165, Jl255, Jl511, Jl512, Jl600, Jl610, Jl940, Jl968, Jl999, Jl1134, Jl1152, Jl2048, Jl4608, Jl9999, Jl99999, Jl100000, Jl147456, Jl12345, Jl1103515245, Jl100000000, Jlm1, Jlm2, J_add, J_sub, J_mul, J_lt, J_le, J_eq, J_ite, J_cl, ri_j, wi_j, b2i_z, b2i_o, b2i_zo, Int.cast_ofNat_Int, Int.natCast_zero, Int.natCast_one, if_true, if_false, ite_self, Int.le_refl, J_bit, J_or, J_neg, J_oN, Int.reduceEq, Int.reduceLT, Int.reduceLE, Int.reduceNeg, Int.reduceAdd, Int.reduceSub, Int.reduceMul, Int.reduceToNat, J_shl, J_shr, V_ite, true_or, or_true, nz_j, J_div, J_rem, Option.bind_some, Option.toList_some, Option.toList_none, List.cons_append, List.nil_append]
  exact V_ok _ (b2i_i _)
theorem om_sp (hd : 1 ≤ d) (hS : AtS μ I b S) (hV : SV S) (hw : 0 ≤ w ∧ w < 8) : cl E lo d 87 [.ref b, .int (J (w))] (mj μ I) = some (some (.int (J (sm (fun k => if S 2 k = w then 1 else 0) (S 0 3)))), mj μ I) := by
  obtain ⟨d, rfl⟩ : ∃ e, d = e + 1 := ⟨d - 1, by omega⟩
  have := hV.1
  have L := tele (fun i => ex PG E lo d 87 4 [some (.ref b), some (.int (J (w))), some (.int (J ((sm (fun k => if S 2 k = w then 1 else 0) i)))), some (.int (J (i)))] [] (mj μ I)) (a := 0) (n := S 0 3) (fun i h1 h2 => by
    have := hV.2.2.1 _ h1 h2
    rw [b87_4, sm_s _ h1]
    simp (disch := omega) only [e87, b87_12, b87_22, b87_25, gO_S hS.1, gR_S2 hS.1, gR_S4 hS.1, gR_S5 hS.1, gR_S6 hS.1, gR_S7 hS.1, gR_S8 hS.1, gR_S9 hS.1, gR_S10 hS.1, gR_S11 hS.1, gR_S12 hS.1, gR_S14 hS.1, gR_S15 hS.1, al_S1 hS.1, al_S2 hS.1, al_S3 hS.1, al_S4 hS.1, al_S5 hS.1, al_S6 hS.1, al_S7 hS.1, al_S8 hS.1, al_S9 hS.1, al_S10 hS.1, al_S11 hS.1, al_S12 hS.1, rd_S1 hS.1, rd_S2 hS.1, rd_S3 hS.1, rd_S4 hS.1, rd_S5 hS.1, rd_S6 hS.1, rd_S7 hS.1, rd_S8 hS.1, rd_S9 hS.1, rd_S10 hS.1, rd_S11 hS.1, rd_S12 hS.1, vS_0 hS, vS_1 hS, vS_2 hS, vS_3 hS, vS_4 hS, vS_5 hS, vS_6 hS, vS_7 hS, vS_8 hS, vS_9 hS, vS_10 hS, vS_11 hS, vS_12 hS, Jl0, Jl1, Jl2, Jl3, Jl4, Jl5, Jl6, Jl7, Jl8, Jl9, Jl10, Jl11, Jl12, Jl13, Jl14, Jl15, Jl16, Jl17, Jl18, Jl19, Jl20, Jl22, Jl24, Jl28, Jl30, Jl31, Jl32, Jl35, Jl36, Jl37, Jl38, Jl39, Jl40, Jl48, Jl57, Jl59, Jl60, Jl61, Jl63, Jl64, Jl68, Jl69, Jl96, Jl97, Jl98, Jl99, Jl100, Jl122, Jl149, Jl150, Jl165, Jl255, Jl511, Jl512, Jl600, Jl610, Jl940, Jl968, Jl999, Jl1134, Jl1152, Jl2048, Jl4608, Jl9999, Jl99999, Jl100000, Jl147456, Jl12345, Jl1103515245, Jl100000000, Jlm1, Jlm2, J_add, J_sub, J_mul, J_lt, J_le, J_eq, J_ite, J_cl, ri_j, wi_j, b2i_z, b2i_o, b2i_zo, Int.cast_ofNat_Int, Int.natCast_zero, Int.natCast_one, if_true, if_false, ite_self, Int.le_refl, J_bit, J_or, J_neg, J_oN, Int.reduceEq, Int.reduceLT, Int.reduceLE, Int.reduceNeg, Int.reduceAdd, Int.reduceSub, Int.reduceMul, Int.reduceToNat, J_shl, J_shr, V_ite, true_or, or_true, nz_j, J_div, J_rem, Option.bind_some, Option.toList_some, Option.toList_none, List.cons_append, List.nil_append]
    grind) (by omega)
  simp (disch := omega) only [b87_0, e87, Jl0, Jl1, Jl2, Jl3, Jl4, Jl5, Jl6, Jl7, Jl8, Jl9, Jl10, Jl11, Jl12, Jl13, Jl14, Jl15, Jl16, Jl17, Jl18, Jl19, Jl20, Jl22, Jl24, Jl28, Jl30, Jl31, Jl32, Jl35, Jl36, Jl37, Jl38, Jl39, Jl40, Jl48, Jl57, Jl59, Jl60, Jl61, Jl63, Jl64, Jl68, Jl69, Jl96, Jl97, Jl98, Jl99, Jl100, Jl122, Jl149, Jl150, Jl165, Jl255, Jl511, Jl512, Jl600, Jl610, Jl940, Jl968, Jl999, Jl1134, Jl1152, Jl2048, Jl4608, Jl9999, Jl99999, Jl100000, Jl147456, Jl12345, Jl1103515245, Jl100000000, Jlm1, Jlm2, J_add, J_sub, J_mul, J_lt, J_le, J_eq, J_ite, J_cl, ri_j, wi_j, b2i_z, b2i_o, b2i_zo, Int.cast_ofNat_Int, Int.natCast_zero, Int.natCast_one, if_true, if_false, ite_self, Int.le_refl, J_bit, J_or, J_neg, J_oN, Int.reduceEq, Int.reduceLT, Int.reduceLE, Int.reduceNeg, Int.reduceAdd, Int.reduceSub, Int.reduceMul, Int.reduceToNat, J_shl, J_shr, V_ite, true_or, or_true, nz_j, J_div, J_rem, Option.bind_some, Option.toList_some, Option.toList_none, List.cons_append, List.nil_append]
  refine L.trans ?_
  rw [b87_4]
  simp (disch := omega) only [b87_31, gO_S hS.1, gR_S2 hS.1, gR_S4 hS.1, gR_S5 hS.1, gR_S6 hS.1, gR_S7 hS.1, gR_S8 hS.1, gR_S9 hS.1, gR_S10 hS.1, gR_S11 hS.1, gR_S12 hS.1, gR_S14 hS.1, gR_S15 hS.1, al_S1 hS.1, al_S2 hS.1, al_S3 hS.1, al_S4 hS.1, al_S5 hS.1, al_S6 hS.1, al_S7 hS.1, al_S8 hS.1, al_S9 hS.1, al_S10 hS.1, al_S11 hS.1, al_S12 hS.1, rd_S1 hS.1, rd_S2 hS.1, rd_S3 hS.1, rd_S4 hS.1, rd_S5 hS.1, rd_S6 hS.1, rd_S7 hS.1, rd_S8 hS.1, rd_S9 hS.1, rd_S10 hS.1, rd_S11 hS.1, rd_S12 hS.1, vS_0 hS, vS_1 hS, vS_2 hS, vS_3 hS, vS_4 hS, vS_5 hS, vS_6 hS, vS_7 hS, vS_8 hS, vS_9 hS, vS_10 hS, vS_11 hS, vS_12 hS, Jl0, Jl1, Jl2, Jl3, Jl4, Jl5, Jl6, Jl7, Jl8, Jl9, Jl10, Jl11, Jl12, Jl13, Jl14, Jl15, Jl16, Jl17, Jl18, Jl19, Jl20, Jl22, Jl24, Jl28, Jl30, Jl31, Jl32, Jl35, Jl36, Jl37, Jl38, Jl39, Jl40, Jl48, Jl57, Jl59, Jl60, Jl61, Jl63, Jl64, Jl68, Jl69, Jl96, Jl97, Jl98, Jl99, Jl100, Jl122, Jl149, Jl150, Jl165, Jl255, Jl511, Jl512, Jl600, Jl610, Jl940, Jl968, Jl999, Jl1134, Jl1152, Jl2048, Jl4608, Jl9999, Jl99999, Jl100000, Jl147456, Jl12345, Jl1103515245, Jl100000000, Jlm1, Jlm2, J_add, J_sub, J_mul, J_lt, J_le, J_eq, J_ite, J_cl, ri_j, wi_j, b2i_z, b2i_o, b2i_zo, Int.cast_ofNat_Int, Int.natCast_zero, Int.natCast_one, if_true, if_false, ite_self, Int.le_refl, J_bit, J_or, J_neg, J_oN, Int.reduceEq, Int.reduceLT, Int.reduceLE, Int.reduceNeg, Int.reduceAdd, Int.reduceSub, Int.reduceMul, Int.reduceToNat, J_shl, J_shr, V_ite, true_or, or_true, nz_j, J_div, J_rem, Option.bind_some, Option.toList_some, Option.toList_none, List.cons_append, List.nil_append]
theorem si_sp (hd : 1 ≤ d) (hS : AtS μ I b S) (hV : SV S) (hk : 0 ≤ k ∧ k < S 0 3) : cl E lo d 88 [.ref b, .int (J (k))] (mj μ I) = some (some (.int (J (siS S k))), mj μ I) := by
  obtain ⟨d, rfl⟩ : ∃ e, d = e + 1 := ⟨d - 1, by omega⟩
  have := hV.1
  have := hV.2.2.1 _ hk.1 hk.2
  have L := fi_loop (fun i => ex PG E lo d 88 2 [some (.ref b), some (.int (J (k))), some (.int (J (i)))] [] (mj μ I)) (fun i => some (some (.int (J i)), mj μ I)) (fun j => decide (S 10 j = k ∧ S 2 k = 3)) (n := S 0 3) (by omega) (fun i h1 h2 => by
    have := hV.2.2.1 _ h1 h2
    rw [b88_2]
    simp (disch := omega) only [e88, b88_10, b88_20, b88_30, b88_32, gO_S hS.1, gR_S2 hS.1, gR_S4 hS.1, gR_S5 hS.1, gR_S6 hS.1, gR_S7 hS.1, gR_S8 hS.1, gR_S9 hS.1, gR_S10 hS.1, gR_S11 hS.1, gR_S12 hS.1, gR_S14 hS.1, gR_S15 hS.1, al_S1 hS.1, al_S2 hS.1, al_S3 hS.1, al_S4 hS.1, al_S5 hS.1, al_S6 hS.1, al_S7 hS.1, al_S8 hS.1, al_S9 hS.1, al_S10 hS.1, al_S11 hS.1, al_S12 hS.1, rd_S1 hS.1, rd_S2 hS.1, rd_S3 hS.1, rd_S4 hS.1, rd_S5 hS.1, rd_S6 hS.1, rd_S7 hS.1, rd_S8 hS.1, rd_S9 hS.1, rd_S10 hS.1, rd_S11 hS.1, rd_S12 hS.1, vS_0 hS, vS_1 hS, vS_2 hS, vS_3 hS, vS_4 hS, vS_5 hS, vS_6 hS, vS_7 hS, vS_8 hS, vS_9 hS, vS_10 hS, vS_11 hS, vS_12 hS, Jl0, Jl1, Jl2, Jl3, Jl4, Jl5, Jl6, Jl7, Jl8, Jl9, Jl10, Jl11, Jl12, Jl13, Jl14, Jl15, Jl16, Jl17, Jl18, Jl19, Jl20, Jl22, Jl24, Jl28, Jl30, Jl31, Jl32, Jl35, Jl36, Jl37, Jl38, Jl39, Jl40, Jl48, Jl57, Jl59, Jl60, Jl61, Jl63, Jl64, Jl68, Jl69, Jl96, Jl97, Jl98, Jl99, Jl100, Jl122, Jl149, Jl150, Jl165, Jl255, Jl511, Jl512, Jl600, Jl610, Jl940, Jl968, Jl999, Jl1134, Jl1152, Jl2048, Jl4608, Jl9999, Jl99999, Jl100000, Jl147456, Jl12345, Jl1103515245, Jl100000000, Jlm1, Jlm2, J_add, J_sub, J_mul, J_lt, J_le, J_eq, J_ite, J_cl, ri_j, wi_j, b2i_z, b2i_o, b2i_zo, Int.cast_ofNat_Int, Int.natCast_zero, Int.natCast_one, if_true, if_false, ite_self, Int.le_refl, J_bit, J_or, J_neg, J_oN, Int.reduceEq, Int.reduceLT, Int.reduceLE, Int.reduceNeg, Int.reduceAdd, Int.reduceSub, Int.reduceMul, Int.reduceToNat, J_shl, J_shr, V_ite, true_or, or_true, nz_j, J_div, J_rem, Option.bind_some, Option.toList_some, Option.toList_none, List.cons_append, List.nil_append]
    grind)
  simp (disch := omega) only [b88_0, e88, Jl0, Jl1, Jl2, Jl3, Jl4, Jl5, Jl6, Jl7, Jl8, Jl9, Jl10, Jl11, Jl12, Jl13, Jl14, Jl15, Jl16, Jl17, Jl18, Jl19, Jl20, Jl22, Jl24, Jl28, Jl30, Jl31, Jl32, Jl35, Jl36, Jl37, Jl38, Jl39, Jl40, Jl48, Jl57, Jl59, Jl60, Jl61, Jl63, Jl64, Jl68, Jl69, Jl96, Jl97, Jl98, Jl99, Jl100, Jl122, Jl149, Jl150, Jl165, Jl255, Jl511, Jl512, Jl600, Jl610, Jl940, Jl968, Jl999, Jl1134, Jl1152, Jl2048, Jl4608, Jl9999, Jl99999, Jl100000, Jl147456, Jl12345, Jl1103515245, Jl100000000, Jlm1, Jlm2, J_add, J_sub, J_mul, J_lt, J_le, J_eq, J_ite, J_cl, ri_j, wi_j, b2i_z, b2i_o, b2i_zo, Int.cast_ofNat_Int, Int.natCast_zero, Int.natCast_one, if_true, if_false, ite_self, Int.le_refl, J_bit, J_or, J_neg, J_oN, Int.reduceEq, Int.reduceLT, Int.reduceLE, Int.reduceNeg, Int.reduceAdd, Int.reduceSub, Int.reduceMul, Int.reduceToNat, J_shl, J_shr, V_ite, true_or, or_true, nz_j, J_div, J_rem, Option.bind_some, Option.toList_some, Option.toList_none, List.cons_append, List.nil_append]
  refine L.trans ?_
  rw [b88_2]
  simp (disch := omega) only [b88_38, gO_S hS.1, gR_S2 hS.1, gR_S4 hS.1, gR_S5 hS.1, gR_S6 hS.1, gR_S7 hS.1, gR_S8 hS.1, gR_S9 hS.1, gR_S10 hS.1, gR_S11 hS.1, gR_S12 hS.1, gR_S14 hS.1, gR_S15 hS.1, al_S1 hS.1, al_S2 hS.1, al_S3 hS.1, al_S4 hS.1, al_S5 hS.1, al_S6 hS.1, al_S7 hS.1, al_S8 hS.1, al_S9 hS.1, al_S10 hS.1, al_S11 hS.1, al_S12 hS.1, rd_S1 hS.1, rd_S2 hS.1, rd_S3 hS.1, rd_S4 hS.1, rd_S5 hS.1, rd_S6 hS.1, rd_S7 hS.1, rd_S8 hS.1, rd_S9 hS.1, rd_S10 hS.1, rd_S11 hS.1, rd_S12 hS.1, vS_0 hS, vS_1 hS, vS_2 hS, vS_3 hS, vS_4 hS, vS_5 hS, vS_6 hS, vS_7 hS, vS_8 hS, vS_9 hS, vS_10 hS, vS_11 hS, vS_12 hS, Jl0, Jl1, Jl2, Jl3, Jl4, Jl5, Jl6, Jl7, Jl8, Jl9, Jl10, Jl11, Jl12, Jl13, Jl14, Jl15, Jl16, Jl17, Jl18, Jl19, Jl20, Jl22, Jl24, Jl28, Jl30, Jl31, Jl32, Jl35, Jl36, Jl37, Jl38, Jl39, Jl40, Jl48, Jl57, Jl59, Jl60, Jl61, Jl63, Jl64, Jl68, Jl69, Jl96, Jl97, Jl98, Jl99, Jl100, Jl122, Jl149, Jl150, Jl165, Jl255, Jl511, Jl512, Jl600, Jl610, Jl940, Jl968, Jl999, Jl1134, Jl1152, Jl2048, Jl4608, Jl9999, Jl99999, Jl100000, Jl147456, Jl12345, Jl1103515245, Jl100000000, Jlm1, Jlm2, J_add, J_sub, J_mul, J_lt, J_le, J_eq, J_ite, J_cl, ri_j, wi_j, b2i_z, b2i_o, b2i_zo, Int.cast_ofNat_Int, Int.natCast_zero, Int.natCast_one, if_true, if_false, ite_self, Int.le_refl, J_bit, J_or, J_neg, J_oN, Int.reduceEq, Int.reduceLT, Int.reduceLE, Int.reduceNeg, Int.reduceAdd, Int.reduceSub, Int.reduceMul, Int.reduceToNat, J_shl, J_shr, V_ite, true_or, or_true, nz_j, J_div, J_rem, Option.bind_some, Option.toList_some, Option.toList_none, List.cons_append, List.nil_append]
  refine V_ok _ ?_
  show _ = fi (fun j => decide (S 10 j = k ∧ S 2 k = 3)) (S 0 3)
  grind
theorem wb_sp (hd : 1 ≤ d) (hS : AtS μ I b S) (hV : SV S) (hk : 0 ≤ k ∧ k < 100) (hx : -1000 ≤ x ∧ x ≤ 1000) (hy : -1000 ≤ y ∧ y ≤ 1000) : cl E lo d 89 [.ref b, .int (J (k)), .int (J (x)), .int (J (y))] (mj μ I) = some (some (.int (J (wbS S k x y))), mj μ I) := by
  obtain ⟨d, rfl⟩ : ∃ e, d = e + 1 := ⟨d - 1, by omega⟩
  have := hV.1
  have L := tele (fun i => ex PG E lo d 89 6 [some (.ref b), some (.int (J (k))), some (.int (J (x))), some (.int (J (y))), some (.int (J ((sm (wb1 S k x y) i)))), some (.int (J (i)))] [] (mj μ I)) (a := 0) (n := S 0 13) (fun i h1 h2 => by
    have := hV.2.2.2 _ h1 h2
    rw [b89_6, sm_s _ h1]
    simp (disch := omega) only [e89, b89_15, b89_26, b89_37, b89_48, b89_51, gO_S hS.1, gR_S2 hS.1, gR_S4 hS.1, gR_S5 hS.1, gR_S6 hS.1, gR_S7 hS.1, gR_S8 hS.1, gR_S9 hS.1, gR_S10 hS.1, gR_S11 hS.1, gR_S12 hS.1, gR_S14 hS.1, gR_S15 hS.1, al_S1 hS.1, al_S2 hS.1, al_S3 hS.1, al_S4 hS.1, al_S5 hS.1, al_S6 hS.1, al_S7 hS.1, al_S8 hS.1, al_S9 hS.1, al_S10 hS.1, al_S11 hS.1, al_S12 hS.1, rd_S1 hS.1, rd_S2 hS.1, rd_S3 hS.1, rd_S4 hS.1, rd_S5 hS.1, rd_S6 hS.1, rd_S7 hS.1, rd_S8 hS.1, rd_S9 hS.1, rd_S10 hS.1, rd_S11 hS.1, rd_S12 hS.1, vS_0 hS, vS_1 hS, vS_2 hS, vS_3 hS, vS_4 hS, vS_5 hS, vS_6 hS, vS_7 hS, vS_8 hS, vS_9 hS, vS_10 hS, vS_11 hS, vS_12 hS, wb1, Jl0, Jl1, Jl2, Jl3, Jl4, Jl5, Jl6, Jl7, Jl8, Jl9, Jl10, Jl11, Jl12, Jl13, Jl14, Jl15, Jl16, Jl17, Jl18, Jl19, Jl20, Jl22, Jl24, Jl28, Jl30, Jl31, Jl32, Jl35, Jl36, Jl37, Jl38, Jl39, Jl40, Jl48, Jl57, Jl59, Jl60, Jl61, Jl63, Jl64, Jl68, Jl69, Jl96, Jl97, Jl98, Jl99, Jl100, Jl122, Jl149, Jl150, Jl165, Jl255, Jl511, Jl512, Jl600, Jl610, Jl940, Jl968, Jl999, Jl1134, Jl1152, Jl2048, Jl4608, Jl9999, Jl99999, Jl100000, Jl147456, Jl12345, Jl1103515245, Jl100000000, Jlm1, Jlm2, J_add, J_sub, J_mul, J_lt, J_le, J_eq, J_ite, J_cl, ri_j, wi_j, b2i_z, b2i_o, b2i_zo, Int.cast_ofNat_Int, Int.natCast_zero, Int.natCast_one, if_true, if_false, ite_self, Int.le_refl, J_bit, J_or, J_neg, J_oN, Int.reduceEq, Int.reduceLT, Int.reduceLE, Int.reduceNeg, Int.reduceAdd, Int.reduceSub, Int.reduceMul, Int.reduceToNat, J_shl, J_shr, V_ite, true_or, or_true, nz_j, J_div, J_rem, Option.bind_some, Option.toList_some, Option.toList_none, List.cons_append, List.nil_append]
    grind) (by omega)
  simp (disch := omega) only [b89_0, e89, Jl0, Jl1, Jl2, Jl3, Jl4, Jl5, Jl6, Jl7, Jl8, Jl9, Jl10, Jl11, Jl12, Jl13, Jl14, Jl15, Jl16, Jl17, Jl18, Jl19, Jl20, Jl22, Jl24, Jl28, Jl30, Jl31, Jl32, Jl35, Jl36, Jl37, Jl38, Jl39, Jl40, Jl48, Jl57, Jl59, Jl60, Jl61, Jl63, Jl64, Jl68, Jl69, Jl96, Jl97, Jl98, Jl99, Jl100, Jl122, Jl149, Jl150, Jl165, Jl255, Jl511, Jl512, Jl600, Jl610, Jl940, Jl968, Jl999, Jl1134, Jl1152, Jl2048, Jl4608, Jl9999, Jl99999, Jl100000, Jl147456, Jl12345, Jl1103515245, Jl100000000, Jlm1, Jlm2, J_add, J_sub, J_mul, J_lt, J_le, J_eq, J_ite, J_cl, ri_j, wi_j, b2i_z, b2i_o, b2i_zo, Int.cast_ofNat_Int, Int.natCast_zero, Int.natCast_one, if_true, if_false, ite_self, Int.le_refl, J_bit, J_or, J_neg, J_oN, Int.reduceEq, Int.reduceLT, Int.reduceLE, Int.reduceNeg, Int.reduceAdd, Int.reduceSub, Int.reduceMul, Int.reduceToNat, J_shl, J_shr, V_ite, true_or, or_true, nz_j, J_div, J_rem, Option.bind_some, Option.toList_some, Option.toList_none, List.cons_append, List.nil_append]
  refine L.trans ?_
  rw [b89_6]
  simp (disch := omega) only [b89_57, gO_S hS.1, gR_S2 hS.1, gR_S4 hS.1, gR_S5 hS.1, gR_S6 hS.1, gR_S7 hS.1, gR_S8 hS.1, gR_S9 hS.1, gR_S10 hS.1, gR_S11 hS.1, gR_S12 hS.1, gR_S14 hS.1, gR_S15 hS.1, al_S1 hS.1, al_S2 hS.1, al_S3 hS.1, al_S4 hS.1, al_S5 hS.1, al_S6 hS.1, al_S7 hS.1, al_S8 hS.1, al_S9 hS.1, al_S10 hS.1, al_S11 hS.1, al_S12 hS.1, rd_S1 hS.1, rd_S2 hS.1, rd_S3 hS.1, rd_S4 hS.1, rd_S5 hS.1, rd_S6 hS.1, rd_S7 hS.1, rd_S8 hS.1, rd_S9 hS.1, rd_S10 hS.1, rd_S11 hS.1, rd_S12 hS.1, vS_0 hS, vS_1 hS, vS_2 hS, vS_3 hS, vS_4 hS, vS_5 hS, vS_6 hS, vS_7 hS, vS_8 hS, vS_9 hS, vS_10 hS, vS_11 hS, vS_12 hS, Jl0, Jl1, Jl2, Jl3, Jl4, Jl5, Jl6, Jl7, Jl8, Jl9, Jl10, Jl11, Jl12, Jl13, Jl14, Jl15, Jl16, Jl17, Jl18, Jl19, Jl20, Jl22, Jl24, Jl28, Jl30, Jl31, Jl32, Jl35, Jl36, Jl37, Jl38, Jl39, Jl40, Jl48, Jl57, Jl59, Jl60, Jl61, Jl63, Jl64, Jl68, Jl69, Jl96, Jl97, Jl98, Jl99, Jl100, Jl122, Jl149, Jl150, Jl165, Jl255, Jl511, Jl512, Jl600, Jl610, Jl940, Jl968, Jl999, Jl1134, Jl1152, Jl2048, Jl4608, Jl9999, Jl99999, Jl100000, Jl147456, Jl12345, Jl1103515245, Jl100000000, Jlm1, Jlm2, J_add, J_sub, J_mul, J_lt, J_le, J_eq, J_ite, J_cl, ri_j, wi_j, b2i_z, b2i_o, b2i_zo, Int.cast_ofNat_Int, Int.natCast_zero, Int.natCast_one, if_true, if_false, ite_self, Int.le_refl, J_bit, J_or, J_neg, J_oN, Int.reduceEq, Int.reduceLT, Int.reduceLE, Int.reduceNeg, Int.reduceAdd, Int.reduceSub, Int.reduceMul, Int.reduceToNat, J_shl, J_shr, V_ite, true_or, or_true, nz_j, J_div, J_rem, Option.bind_some, Option.toList_some, Option.toList_none, List.cons_append, List.nil_append]
  rfl
theorem up_sp (hd : 2 ≤ d) (hS : AtS μ I b S) (hV : SV S) (hk : 0 ≤ k ∧ k < S 0 3) : cl E lo d 90 [.ref b, .int (J (k))] (mj μ I) = some (some (.int (J (upS S k))), mj μ I) := by
  obtain ⟨d, rfl⟩ : ∃ e, d = e + 1 := ⟨d - 1, by omega⟩
  have := hV.1
  have := hV.2.2.1 _ hk.1 hk.2
  have hw := wbS_b hV k (S 6 k - 8) (S 6 k - 1)
  simp (disch := omega) only [e90, b90_0, b90_19, b90_22, b90_26, b90_27, b90_32, b90_43, b90_44, gO_S hS.1, gR_S2 hS.1, gR_S4 hS.1, gR_S5 hS.1, gR_S6 hS.1, gR_S7 hS.1, gR_S8 hS.1, gR_S9 hS.1, gR_S10 hS.1, gR_S11 hS.1, gR_S12 hS.1, gR_S14 hS.1, gR_S15 hS.1, al_S1 hS.1, al_S2 hS.1, al_S3 hS.1, al_S4 hS.1, al_S5 hS.1, al_S6 hS.1, al_S7 hS.1, al_S8 hS.1, al_S9 hS.1, al_S10 hS.1, al_S11 hS.1, al_S12 hS.1, rd_S1 hS.1, rd_S2 hS.1, rd_S3 hS.1, rd_S4 hS.1, rd_S5 hS.1, rd_S6 hS.1, rd_S7 hS.1, rd_S8 hS.1, rd_S9 hS.1, rd_S10 hS.1, rd_S11 hS.1, rd_S12 hS.1, vS_0 hS, vS_1 hS, vS_2 hS, vS_3 hS, vS_4 hS, vS_5 hS, vS_6 hS, vS_7 hS, vS_8 hS, vS_9 hS, vS_10 hS, vS_11 hS, vS_12 hS, wb_sp, Jl0, Jl1, Jl2, Jl3, Jl4, Jl5, Jl6, Jl7, Jl8, Jl9, Jl10, Jl11, Jl12, Jl13, Jl14, Jl15, Jl16, Jl17, Jl18, Jl19, Jl20, Jl22, Jl24, Jl28, Jl30, Jl31, Jl32, Jl35, Jl36, Jl37, Jl38, Jl39, Jl40, Jl48, Jl57, Jl59, Jl60, Jl61, Jl63, Jl64, Jl68, Jl69, Jl96, Jl97, Jl98, Jl99, Jl100, Jl122, Jl149, Jl150, Jl165, Jl255, Jl511, Jl512, Jl600, Jl610, Jl940, Jl968, Jl999, Jl1134, Jl1152, Jl2048, Jl4608, Jl9999, Jl99999, Jl100000, Jl147456, Jl12345, Jl1103515245, Jl100000000, Jlm1, Jlm2, J_add, J_sub, J_mul, J_lt, J_le, J_eq, J_ite, J_cl, ri_j, wi_j, b2i_z, b2i_o, b2i_zo, Int.cast_ofNat_Int, Int.natCast_zero, Int.natCast_one, if_true, if_false, ite_self, Int.le_refl, J_bit, J_or, J_neg, J_oN, Int.reduceEq, Int.reduceLT, Int.reduceLE, Int.reduceNeg, Int.reduceAdd, Int.reduceSub, Int.reduceMul, Int.reduceToNat, J_shl, J_shr, V_ite, true_or, or_true, nz_j, J_div, J_rem, Option.bind_some, Option.toList_some, Option.toList_none, List.cons_append, List.nil_append]
  refine V_ok _ ?_
  unfold upS
  grind
theorem po_sp (hd : 1 ≤ d) (hS : AtS μ I b S) (hV : SV S) (hk : 0 ≤ k ∧ k < S 0 3) (hu : -1000 ≤ u ∧ u ≤ 1000) : cl E lo d 91 [.ref b, .int (J (k)), .int (J (u))] (mj μ I) = some (some (.int (J (b2i (poS S k u)))), mj μ I) := by
  obtain ⟨d, rfl⟩ : ∃ e, d = e + 1 := ⟨d - 1, by omega⟩
  have := hV.1
  have := hV.2.2.1 _ hk.1 hk.2
  simp (disch := omega) only [e91, b91_0, b91_10, b91_20, b91_24, b91_25, gO_S hS.1, gR_S2 hS.1, gR_S4 hS.1, gR_S5 hS.1, gR_S6 hS.1, gR_S7 hS.1, gR_S8 hS.1, gR_S9 hS.1, gR_S10 hS.1, gR_S11 hS.1, gR_S12 hS.1, gR_S14 hS.1, gR_S15 hS.1, al_S1 hS.1, al_S2 hS.1, al_S3 hS.1, al_S4 hS.1, al_S5 hS.1, al_S6 hS.1, al_S7 hS.1, al_S8 hS.1, al_S9 hS.1, al_S10 hS.1, al_S11 hS.1, al_S12 hS.1, rd_S1 hS.1, rd_S2 hS.1, rd_S3 hS.1, rd_S4 hS.1, rd_S5 hS.1, rd_S6 hS.1, rd_S7 hS.1, rd_S8 hS.1, rd_S9 hS.1, rd_S10 hS.1, rd_S11 hS.1, rd_S12 hS.1, vS_0 hS, vS_1 hS, vS_2 hS, vS_3 hS, vS_4 hS, vS_5 hS, vS_6 hS, vS_7 hS, vS_8 hS, vS_9 hS, vS_10 hS, vS_11 hS, vS_12 hS, Jl0, Jl1, Jl2, Jl3, Jl4, Jl5, Jl6, Jl7, Jl8, Jl9, Jl10, Jl11, Jl12, Jl13, Jl14, Jl15, Jl16, Jl17, Jl18, Jl19, Jl20, Jl22, Jl24, Jl28, Jl30, Jl31, Jl32, Jl35, Jl36, Jl37, Jl38, Jl39, Jl40, Jl48, Jl57, Jl59, Jl60, Jl61, Jl63, Jl64, Jl68, Jl69, Jl96, Jl97, Jl98, Jl99, Jl100, Jl122, Jl149, Jl150, Jl165, Jl255, Jl511, Jl512, Jl600, Jl610, Jl940, Jl968, Jl999, Jl1134, Jl1152, Jl2048, Jl4608, Jl9999, Jl99999, Jl100000, Jl147456, Jl12345, Jl1103515245, Jl100000000, Jlm1, Jlm2, J_add, J_sub, J_mul, J_lt, J_le, J_eq, J_ite, J_cl, ri_j, wi_j, b2i_z, b2i_o, b2i_zo, Int.cast_ofNat_Int, Int.natCast_zero, Int.natCast_one, if_true, if_false, ite_self, Int.le_refl, J_bit, J_or, J_neg, J_oN, Int.reduceEq, Int.reduceLT, Int.reduceLE, Int.reduceNeg, Int.reduceAdd, Int.reduceSub, Int.reduceMul, Int.reduceToNat, J_shl, J_shr, V_ite, true_or, or_true, nz_j, J_div, J_rem, Option.bind_some, Option.toList_some, Option.toList_none, List.cons_append, List.nil_append]
  refine V_ok _ ?_
  unfold poS
  grind [b2i]
theorem dsS_b {S : Nat → Int → Int} (hV : SV S) {k u w : Int} (hk : 0 ≤ k ∧ k < S 0 3) (hw : 0 ≤ w) (hu : u ≤ 1000) : 0 ≤ dsS S k u w ∧ dsS S k u w ≤ 100 := by
  have h1 := wbS_b hV k (u - 5) u
  have h2 := hV.2.2.1 k hk.1 hk.2
  unfold dsS
  by_cases hc : u ≤ w
  · rw [if_pos hc]; omega
  · rw [if_neg hc]
    have h3 : 0 ≤ S 7 k * (u - w) := Int.mul_nonneg (by omega) (by omega)
    dsimp only
    grind
theorem ds_sp (hd : 2 ≤ d) (hS : AtS μ I b S) (hV : SV S) (hk : 0 ≤ k ∧ k < S 0 3) (hu : 0 ≤ u ∧ u ≤ 1000) (hw : 0 ≤ w ∧ w ≤ 1000) : cl E lo d 92 [.ref b, .int (J (k)), .int (J (u)), .int (J (w))] (mj μ I) = some (some (.int (J (dsS S k u w))), mj μ I) := by
  obtain ⟨d, rfl⟩ : ∃ e, d = e + 1 := ⟨d - 1, by omega⟩
  have := hV.1
  have := hV.2.2.1 _ hk.1 hk.2
  have h1 := wbS_b hV k (u - 5) u
  have h3 : -10000 ≤ S 7 k * (u - w) ∧ S 7 k * (u - w) ≤ 10000 := by
    have := mul_b (a := S 7 k) (b := u - w) (A := 9) (B := 1000) (by omega) (by omega)
    omega
  simp (disch := omega) only [e92, b92_0, b92_5, b92_7, b92_13, b92_16, b92_28, b92_34, b92_65, b92_79, b92_90, b92_92, gO_S hS.1, gR_S2 hS.1, gR_S4 hS.1, gR_S5 hS.1, gR_S6 hS.1, gR_S7 hS.1, gR_S8 hS.1, gR_S9 hS.1, gR_S10 hS.1, gR_S11 hS.1, gR_S12 hS.1, gR_S14 hS.1, gR_S15 hS.1, al_S1 hS.1, al_S2 hS.1, al_S3 hS.1, al_S4 hS.1, al_S5 hS.1, al_S6 hS.1, al_S7 hS.1, al_S8 hS.1, al_S9 hS.1, al_S10 hS.1, al_S11 hS.1, al_S12 hS.1, rd_S1 hS.1, rd_S2 hS.1, rd_S3 hS.1, rd_S4 hS.1, rd_S5 hS.1, rd_S6 hS.1, rd_S7 hS.1, rd_S8 hS.1, rd_S9 hS.1, rd_S10 hS.1, rd_S11 hS.1, rd_S12 hS.1, vS_0 hS, vS_1 hS, vS_2 hS, vS_3 hS, vS_4 hS, vS_5 hS, vS_6 hS, vS_7 hS, vS_8 hS, vS_9 hS, vS_10 hS, vS_11 hS, vS_12 hS, wb_sp, po_sp, Jl0, Jl1, Jl2, Jl3, Jl4, Jl5, Jl6, Jl7, Jl8, Jl9, Jl10, Jl11, Jl12, Jl13, Jl14, Jl15, Jl16, Jl17, Jl18, Jl19, Jl20, Jl22, Jl24, Jl28, Jl30, Jl31, Jl32, Jl35, Jl36, Jl37, Jl38, Jl39, Jl40, Jl48, Jl57, Jl59, Jl60, Jl61, Jl63, Jl64, Jl68, Jl69, Jl96, Jl97, Jl98, Jl99, Jl100, Jl122, Jl149, Jl150, Jl165, Jl255, Jl511, Jl512, Jl600, Jl610, Jl940, Jl968, Jl999, Jl1134, Jl1152, Jl2048, Jl4608, Jl9999, Jl99999, Jl100000, Jl147456, Jl12345, Jl1103515245, Jl100000000, Jlm1, Jlm2, J_add, J_sub, J_mul, J_lt, J_le, J_eq, J_ite, J_cl, ri_j, wi_j, b2i_z, b2i_o, b2i_zo, Int.cast_ofNat_Int, Int.natCast_zero, Int.natCast_one, if_true, if_false, ite_self, Int.le_refl, J_bit, J_or, J_neg, J_oN, Int.reduceEq, Int.reduceLT, Int.reduceLE, Int.reduceNeg, Int.reduceAdd, Int.reduceSub, Int.reduceMul, Int.reduceToNat, J_shl, J_shr, V_ite, true_or, or_true, nz_j, J_div, J_rem, Option.bind_some, Option.toList_some, Option.toList_none, List.cons_append, List.nil_append]
  refine V_ok _ ?_
  unfold dsS
  grind
theorem dw_sp (hd : 3 ≤ d) (hS : AtS μ I b S) (hV : SV S) (hk : 0 ≤ k ∧ k < S 0 3) (hu : 0 ≤ u ∧ u ≤ 1000) : cl E lo d 93 [.ref b, .int (J (k)), .int (J (u))] (mj μ I) = some (some (.int (J (duS S k u))), mj μ I) := by
  obtain ⟨d, rfl⟩ : ∃ e, d = e + 1 := ⟨d - 1, by omega⟩
  have := hV.1
  have := hV.2.2.1 _ hk.1 hk.2
  have := upS_b hV hk
  simp (disch := omega) only [e93, b93_0, b93_10, b93_16, b93_19, b93_23, b93_24, b93_29, b93_41, b93_44, b93_45, gO_S hS.1, gR_S2 hS.1, gR_S4 hS.1, gR_S5 hS.1, gR_S6 hS.1, gR_S7 hS.1, gR_S8 hS.1, gR_S9 hS.1, gR_S10 hS.1, gR_S11 hS.1, gR_S12 hS.1, gR_S14 hS.1, gR_S15 hS.1, al_S1 hS.1, al_S2 hS.1, al_S3 hS.1, al_S4 hS.1, al_S5 hS.1, al_S6 hS.1, al_S7 hS.1, al_S8 hS.1, al_S9 hS.1, al_S10 hS.1, al_S11 hS.1, al_S12 hS.1, rd_S1 hS.1, rd_S2 hS.1, rd_S3 hS.1, rd_S4 hS.1, rd_S5 hS.1, rd_S6 hS.1, rd_S7 hS.1, rd_S8 hS.1, rd_S9 hS.1, rd_S10 hS.1, rd_S11 hS.1, rd_S12 hS.1, vS_0 hS, vS_1 hS, vS_2 hS, vS_3 hS, vS_4 hS, vS_5 hS, vS_6 hS, vS_7 hS, vS_8 hS, vS_9 hS, vS_10 hS, vS_11 hS, vS_12 hS, up_sp, ds_sp, Jl0, Jl1, Jl2, Jl3, Jl4, Jl5, Jl6, Jl7, Jl8, Jl9, Jl10, Jl11, Jl12, Jl13, Jl14, Jl15, Jl16, Jl17, Jl18, Jl19, Jl20, Jl22, Jl24, Jl28, Jl30, Jl31, Jl32, Jl35, Jl36, Jl37, Jl38, Jl39, Jl40, Jl48, Jl57, Jl59, Jl60, Jl61, Jl63, Jl64, Jl68, Jl69, Jl96, Jl97, Jl98, Jl99, Jl100, Jl122, Jl149, Jl150, Jl165, Jl255, Jl511, Jl512, Jl600, Jl610, Jl940, Jl968, Jl999, Jl1134, Jl1152, Jl2048, Jl4608, Jl9999, Jl99999, Jl100000, Jl147456, Jl12345, Jl1103515245, Jl100000000, Jlm1, Jlm2, J_add, J_sub, J_mul, J_lt, J_le, J_eq, J_ite, J_cl, ri_j, wi_j, b2i_z, b2i_o, b2i_zo, Int.cast_ofNat_Int, Int.natCast_zero, Int.natCast_one, if_true, if_false, ite_self, Int.le_refl, J_bit, J_or, J_neg, J_oN, Int.reduceEq, Int.reduceLT, Int.reduceLE, Int.reduceNeg, Int.reduceAdd, Int.reduceSub, Int.reduceMul, Int.reduceToNat, J_shl, J_shr, V_ite, true_or, or_true, nz_j, J_div, J_rem, Option.bind_some, Option.toList_some, Option.toList_none, List.cons_append, List.nil_append]
  refine V_ok _ ?_
  unfold duS asS
  grind
end STREET
