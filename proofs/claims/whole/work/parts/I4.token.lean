/-! THE NEXT TOKEN, in the reference -/
def rnF (P : Int → Bool) (n : Int) : Nat → Int → Int
  | 0, p => p
  | k + 1, p => if p < n ∧ P p = true then rnF P n k (p + 1) else p
/-- where a run ends -/
def rn (P : Int → Bool) (n p : Int) : Int := rnF P n (n - p).toNat p
theorem rn_y {P : Int → Bool} {n p : Int} (h : p < n ∧ P p = true) : rn P n p = rn P n (p + 1) := by
  unfold rn
  obtain ⟨k, hk⟩ : ∃ k, (n - p).toNat = k + 1 := ⟨(n - p).toNat - 1, by omega⟩
  rw [hk, show (n - (p + 1)).toNat = k from by omega]
  exact if_pos h
theorem rn_n {P : Int → Bool} {n p : Int} (h : ¬ (p < n ∧ P p = true)) : rn P n p = p := by
  unfold rn
  by_cases c : (n - p).toNat = 0
  · rw [c]; rfl
  · obtain ⟨k, hk⟩ : ∃ k, (n - p).toNat = k + 1 := ⟨(n - p).toNat - 1, by omega⟩
    rw [hk]
    exact if_neg h
theorem rn_sp (P : Int → Bool) (n : Int) : ∀ (k : Nat) (p : Int), (n - p).toNat = k → p ≤ rn P n p ∧ (rn P n p ≤ n ∨ rn P n p = p) ∧ (∀ i, p ≤ i → i < rn P n p → i < n ∧ P i = true) ∧ ¬ (rn P n p < n ∧ P (rn P n p) = true) := by
  intro k
  induction k with
  | zero =>
    intro p hk
    have h : ¬ (p < n ∧ P p = true) := fun q => by omega
    rw [rn_n h]
    exact ⟨by omega, by omega, fun i _ _ => by omega, h⟩
  | succ k ih =>
    intro p hk
    by_cases h : p < n ∧ P p = true
    · rw [rn_y h]
      obtain ⟨i1, i2, i3, i4⟩ := ih (p + 1) (by omega)
      refine ⟨by omega, by omega, fun i g1 g2 => ?_, i4⟩
      by_cases e : i = p
      · rw [e]; exact h
      · exact i3 i (by omega) g2
    · rw [rn_n h]
      exact ⟨by omega, by omega, fun i _ _ => by omega, h⟩
theorem rn_loop {α : Type} (f : Int → α) (P : Int → Bool) (n p : Int) (h : ∀ i, p ≤ i → i < n → P i = true → f i = f (i + 1)) : f p = f (rn P n p) := by
  obtain ⟨h1, _, h3, _⟩ := rn_sp P n _ p rfl
  exact tele f (fun i g1 g2 => h i g1 (h3 i g1 g2).1 (h3 i g1 g2).2) h1
def bL (b : Int) : Bool := decide (b = 10 ∨ b = 32)
def lT (b : Int) : Bool := decide (97 ≤ b ∧ b ≤ 122)
def dG (b : Int) : Bool := decide (48 ≤ b ∧ b ≤ 57)
/-- the code of k letters, the number of k digits -/
def cdQ (B : Int → Int) (w k : Int) : Int := fo (fun i v => if i < 8 then 32 * v + B (w + i) - 96 else v) 0 k
def nuQ (B : Int → Int) (w k : Int) : Int := fo (fun i v => if i < 3 then 10 * v + B (w + i) - 48 else v) 0 k
theorem cdQ_s {B : Int → Int} {w k : Int} (h : 0 ≤ k) : cdQ B w (k + 1) = if k < 8 then 32 * cdQ B w k + B (w + k) - 96 else cdQ B w k := fo_s _ _ h
theorem nuQ_s {B : Int → Int} {w k : Int} (h : 0 ≤ k) : nuQ B w (k + 1) = if k < 3 then 10 * nuQ B w k + B (w + k) - 48 else nuQ B w k := fo_s _ _ h
theorem cdQ_b {B : Int → Int} {w : Int} : ∀ k : Nat, k ≤ 8 → (∀ i, 0 ≤ i → i < (k : Int) → 97 ≤ B (w + i) ∧ B (w + i) ≤ 122) → 0 ≤ cdQ B w k ∧ cdQ B w k < ((32 ^ k : Nat) : Int) := by
  intro k
  induction k with
  | zero => intro _ _; exact (by decide : (0 : Int) ≤ 0 ∧ (0 : Int) < ((32 ^ 0 : Nat) : Int))
  | succ k ih =>
    intro hk h
    have i1 := ih (by omega) (fun i g1 g2 => h i g1 (by omega))
    have i2 := h k (by omega) (by omega)
    rw [show ((k + 1 : Nat) : Int) = (k : Int) + 1 from rfl, cdQ_s (by omega), if_pos (by omega), Nat.pow_succ]
    omega
theorem cdQ_40 {B : Int → Int} {w k : Int} (hk : 0 ≤ k ∧ k ≤ 8) (h : ∀ i, 0 ≤ i → i < k → 97 ≤ B (w + i) ∧ B (w + i) ≤ 122) : 0 ≤ cdQ B w k ∧ cdQ B w k < 1099511627776 := by
  have e : (k.toNat : Int) = k := by omega
  have h1 := cdQ_b (B := B) (w := w) k.toNat (by omega) (fun i g1 g2 => h i g1 (by omega))
  have h2 : 32 ^ k.toNat ≤ 32 ^ 8 := Nat.pow_le_pow_right (by decide) (by omega)
  rw [e] at h1
  omega
theorem nuQ_b {B : Int → Int} {w k : Int} (hk : 0 ≤ k ∧ k ≤ 3) (h : ∀ i, 0 ≤ i → i < k → 48 ≤ B (w + i) ∧ B (w + i) ≤ 57) : 0 ≤ nuQ B w k ∧ nuQ B w k ≤ 999 := by
  have h0 : nuQ B w 0 = 0 := rfl
  have h1 : nuQ B w 1 = 10 * nuQ B w 0 + B (w + 0) - 48 := by rw [show (1 : Int) = 0 + 1 from rfl, nuQ_s (by omega)]; rfl
  have h2 : nuQ B w 2 = 10 * nuQ B w 1 + B (w + 1) - 48 := by rw [show (2 : Int) = 1 + 1 from rfl, nuQ_s (by omega)]; rfl
  have h3 : nuQ B w 3 = 10 * nuQ B w 2 + B (w + 2) - 48 := by rw [show (3 : Int) = 2 + 1 from rfl, nuQ_s (by omega)]; rfl
  have c : k = 0 ∨ k = 1 ∨ k = 2 ∨ k = 3 := by omega
  rcases c with c | c | c | c
  · rw [c]; omega
  · have a := h 0 (by omega) (by omega)
    rw [c]; omega
  · have a := h 0 (by omega) (by omega)
    have b := h 1 (by omega) (by omega)
    rw [c]; omega
  · have a := h 0 (by omega) (by omega)
    have b := h 1 (by omega) (by omega)
    have e := h 2 (by omega) (by omega)
    rw [c]; omega
/-- where the token at w ends; its word; its sort -/
def tE (B : Int → Int) (n w : Int) : Int := if n ≤ w then w else if lT (B w) = true then rn (fun j => lT (B j)) n w else if dG (B w) = true then rn (fun j => dG (B j)) n w else w + 1
def wdC (B : Int → Int) (w e : Int) : Int := if e - w ≤ 8 then wo (cdQ B w (e - w)) else 99
def tT (B : Int → Int) (n w : Int) : Int := if n ≤ w then 0 else if lT (B w) = true then (if wdC B w (tE B n w) = 99 then 4 else 3) else if dG (B w) = true then (if tE B n w - w ≤ 3 then 1 else 4) else if B w = 59 then 2 else 4
def tW (B : Int → Int) (n p : Int) : Int := rn (fun j => bL (B j)) n p
/-- the reference's rows with its reader's values -/
def rdM (M : Nat → Int → Int) (p w t nu wd : Int) : Nat → Int → Int := fun c j => if c = 0 ∧ j = 3 then p else if c = 0 ∧ j = 4 then w else if c = 0 ∧ j = 5 then t else if c = 0 ∧ j = 6 then nu else if c = 0 ∧ j = 7 then wd else M c j
section
variable {M : Nat → Int → Int} {p w t nu wd x : Int} {c : Nat}
theorem rdM_i : M = rdM M (M 0 3) (M 0 4) (M 0 5) (M 0 6) (M 0 7) := by funext c j; unfold rdM; grind
theorem rdM_3 : u3 (rdM M p w t nu wd) 0 3 x = rdM M x w t nu wd := by funext c j; unfold u3 rdM; grind
theorem rdM_4 : u3 (rdM M p w t nu wd) 0 4 x = rdM M p x t nu wd := by funext c j; unfold u3 rdM; grind
theorem rdM_5 : u3 (rdM M p w t nu wd) 0 5 x = rdM M p w x nu wd := by funext c j; unfold u3 rdM; grind
theorem rdM_6 : u3 (rdM M p w t nu wd) 0 6 x = rdM M p w t x wd := by funext c j; unfold u3 rdM; grind
theorem rdM_7 : u3 (rdM M p w t nu wd) 0 7 x = rdM M p w t nu x := by funext c j; unfold u3 rdM; grind
theorem rdM_g2 : rdM M p w t nu wd 0 2 = M 0 2 := by unfold rdM; grind
theorem rdM_g3 : rdM M p w t nu wd 0 3 = p := by unfold rdM; grind
theorem rdM_g4 : rdM M p w t nu wd 0 4 = w := by unfold rdM; grind
theorem rdM_g5 : rdM M p w t nu wd 0 5 = t := by unfold rdM; grind
theorem rdM_g6 : rdM M p w t nu wd 0 6 = nu := by unfold rdM; grind
theorem rdM_g7 : rdM M p w t nu wd 0 7 = wd := by unfold rdM; grind
theorem rdM_g8 (h : 8 ≤ x ∨ x ≤ 2) : rdM M p w t nu wd 0 x = M 0 x := by unfold rdM; grind
theorem rdM_c (h : ¬ c = 0) : rdM M p w t nu wd c = M c := by funext j; unfold rdM; grind
theorem rdM_r {p' w' t' nu' wd' : Int} : rdM (rdM M p' w' t' nu' wd') p w t nu wd = rdM M p w t nu wd := by funext c j; unfold rdM; grind
end
def tpB (M : Nat → Int → Int) : Int → Int := fun j => M 1 (10 + j)
section REF
variable {E : (Nat → Value) × (Nat → Nat)} {lo d m : Nat} {μ : rM} {I M : Nat → Int → Int} {x p w t nu wd : Int}
theorem by_sp (hd : 1 ≤ d) (hM : ShM μ m) (hx : 0 ≤ x ∧ x < 2147483648) (hn : 0 ≤ M 0 2 ∧ M 0 2 ≤ 600) : cl E lo d 171 [.ref m, .int (J (x))] (mj μ (sB I m 26 M)) = some (some (.int (J (if x < M 0 2 then tpB M x else -1))), mj μ (sB I m 26 M)) := by
  obtain ⟨d, rfl⟩ : ∃ e, d = e + 1 := ⟨d - 1, by omega⟩
  by_cases c : x < M 0 2
  · rw [if_pos c]
    simp (disch := omega) only [b171_0, b171_8, b171_21, e171, gO_M hM, gR_M0 hM, gR_M1 hM, gR_M11 hM, gR_M13 hM, gR_M14 hM, gR_M15 hM, gR_M16 hM, gR_M17 hM, gR_M22 hM, gR_M32 hM, gR_M33 hM, gR_M34 hM, gR_M35 hM, gR_M36 hM, gR_M37 hM, gR_M38 hM, gR_M41 hM, gR_M42 hM, gR_M43 hM, gR_M45 hM, gR_M46 hM, gR_M47 hM, gR_M50 hM, gR_M51 hM, gR_M52 hM, al_M1 hM, al_M2 hM, al_M3 hM, al_M4 hM, al_M5 hM, al_M6 hM, al_M7 hM, al_M8 hM, al_M9 hM, al_M10 hM, al_M11 hM, al_M12 hM, al_M13 hM, al_M14 hM, al_M15 hM, al_M16 hM, al_M17 hM, al_M18 hM, al_M19 hM, al_M20 hM, al_M21 hM, al_M22 hM, al_M23 hM, al_M24 hM, al_M25 hM, rd_M1 hM, rd_M2 hM, rd_M3 hM, rd_M4 hM, rd_M5 hM, rd_M6 hM, rd_M7 hM, rd_M8 hM, rd_M9 hM, rd_M10 hM, rd_M11 hM, rd_M12 hM, rd_M13 hM, rd_M14 hM, rd_M15 hM, rd_M16 hM, rd_M17 hM, rd_M18 hM, rd_M19 hM, rd_M20 hM, rd_M21 hM, rd_M22 hM, rd_M23 hM, rd_M24 hM, rd_M25 hM, sB_0, sB_c, u3_sB0, u3_sB, u3_s, u3_n, Nat.reduceLT, Jl0, Jl1, Jl2, Jl3, Jl4, Jl5, Jl6, Jl7, Jl8, Jl9, Jl10, Jl11, Jl12, Jl13, Jl14, Jl15, Jl16, Jl17, Jl18, Jl19, Jl20, Jl22, Jl24, Jl28, Jl30, Jl31, Jl32, Jl35, Jl36, Jl37, Jl38, Jl39, Jl40, Jl48, Jl57, Jl59, Jl60, Jl61, Jl63, Jl64, Jl68, Jl69, Jl96, Jl97, Jl98, Jl99, Jl100, Jl122, Jl149, Jl150, Jl165, Jl255, Jl511, Jl512, Jl600, Jl610, Jl940, Jl968, Jl999, Jl1134, Jl1152, Jl2048, Jl4608, Jl9999, Jl99999, Jl100000, Jl147456, Jl12345, Jl1103515245, Jl100000000, Jlm1, Jlm2, J_add, J_sub, J_mul, J_lt, J_le, J_eq, J_ite, J_cl, ri_j, wi_j, b2i_z, b2i_o, b2i_zo, Int.cast_ofNat_Int, Int.natCast_zero, Int.natCast_one, if_true, if_false, ite_self, Int.le_refl, J_bit, J_or, J_neg, J_oN, Int.reduceEq, Int.reduceLT, Int.reduceLE, Int.reduceNeg, Int.reduceAdd, Int.reduceSub, Int.reduceMul, Int.reduceToNat, J_shl, J_shr, V_ite, true_or, or_true, nz_j, J_div, J_rem, Option.bind_some, Option.toList_some, Option.toList_none, List.cons_append, List.nil_append, Jl21, Jl23, Jl25, Jl74, Jl83, Jl288, Jl324, Jl1800, Jlm8]
    repeat (first | rw [if_neg (by omega)] | rw [if_pos (by omega)])
    rfl
  · rw [if_neg c]
    simp (disch := omega) only [b171_0, b171_20, b171_21, e171, gO_M hM, gR_M0 hM, gR_M1 hM, gR_M11 hM, gR_M13 hM, gR_M14 hM, gR_M15 hM, gR_M16 hM, gR_M17 hM, gR_M22 hM, gR_M32 hM, gR_M33 hM, gR_M34 hM, gR_M35 hM, gR_M36 hM, gR_M37 hM, gR_M38 hM, gR_M41 hM, gR_M42 hM, gR_M43 hM, gR_M45 hM, gR_M46 hM, gR_M47 hM, gR_M50 hM, gR_M51 hM, gR_M52 hM, al_M1 hM, al_M2 hM, al_M3 hM, al_M4 hM, al_M5 hM, al_M6 hM, al_M7 hM, al_M8 hM, al_M9 hM, al_M10 hM, al_M11 hM, al_M12 hM, al_M13 hM, al_M14 hM, al_M15 hM, al_M16 hM, al_M17 hM, al_M18 hM, al_M19 hM, al_M20 hM, al_M21 hM, al_M22 hM, al_M23 hM, al_M24 hM, al_M25 hM, rd_M1 hM, rd_M2 hM, rd_M3 hM, rd_M4 hM, rd_M5 hM, rd_M6 hM, rd_M7 hM, rd_M8 hM, rd_M9 hM, rd_M10 hM, rd_M11 hM, rd_M12 hM, rd_M13 hM, rd_M14 hM, rd_M15 hM, rd_M16 hM, rd_M17 hM, rd_M18 hM, rd_M19 hM, rd_M20 hM, rd_M21 hM, rd_M22 hM, rd_M23 hM, rd_M24 hM, rd_M25 hM, sB_0, sB_c, u3_sB0, u3_sB, u3_s, u3_n, Nat.reduceLT, Jl0, Jl1, Jl2, Jl3, Jl4, Jl5, Jl6, Jl7, Jl8, Jl9, Jl10, Jl11, Jl12, Jl13, Jl14, Jl15, Jl16, Jl17, Jl18, Jl19, Jl20, Jl22, Jl24, Jl28, Jl30, Jl31, Jl32, Jl35, Jl36, Jl37, Jl38, Jl39, Jl40, Jl48, Jl57, Jl59, Jl60, Jl61, Jl63, Jl64, Jl68, Jl69, Jl96, Jl97, Jl98, Jl99, Jl100, Jl122, Jl149, Jl150, Jl165, Jl255, Jl511, Jl512, Jl600, Jl610, Jl940, Jl968, Jl999, Jl1134, Jl1152, Jl2048, Jl4608, Jl9999, Jl99999, Jl100000, Jl147456, Jl12345, Jl1103515245, Jl100000000, Jlm1, Jlm2, J_add, J_sub, J_mul, J_lt, J_le, J_eq, J_ite, J_cl, ri_j, wi_j, b2i_z, b2i_o, b2i_zo, Int.cast_ofNat_Int, Int.natCast_zero, Int.natCast_one, if_true, if_false, ite_self, Int.le_refl, J_bit, J_or, J_neg, J_oN, Int.reduceEq, Int.reduceLT, Int.reduceLE, Int.reduceNeg, Int.reduceAdd, Int.reduceSub, Int.reduceMul, Int.reduceToNat, J_shl, J_shr, V_ite, true_or, or_true, nz_j, J_div, J_rem, Option.bind_some, Option.toList_some, Option.toList_none, List.cons_append, List.nil_append, Jl21, Jl23, Jl25, Jl74, Jl83, Jl288, Jl324, Jl1800, Jlm8]
    repeat (first | rw [if_neg (by omega)] | rw [if_pos (by omega)])
theorem let_sp (hd : 1 ≤ d) (hx : i32 x) : cl E lo d 172 [.int (J (x))] μ = some (some (.int (J (b2i (lT x)))), μ) := by
  obtain ⟨d, rfl⟩ : ∃ e, d = e + 1 := ⟨d - 1, by omega⟩
  unfold i32 at hx
  unfold lT
  by_cases c : 97 ≤ x
  · by_cases c2 : x ≤ 122
    · rw [decide_eq_true ⟨c, c2⟩]
      simp (disch := omega) only [e172, b172_0, b172_6, b172_12, b172_16, b172_17, b2i_t, Jl0, Jl1, Jl2, Jl3, Jl4, Jl5, Jl6, Jl7, Jl8, Jl9, Jl10, Jl11, Jl12, Jl13, Jl14, Jl15, Jl16, Jl17, Jl18, Jl19, Jl20, Jl22, Jl24, Jl28, Jl30, Jl31, Jl32, Jl35, Jl36, Jl37, Jl38, Jl39, Jl40, Jl48, Jl57, Jl59, Jl60, Jl61, Jl63, Jl64, Jl68, Jl69, Jl96, Jl97, Jl98, Jl99, Jl100, Jl122, Jl149, Jl150, Jl165, Jl255, Jl511, Jl512, Jl600, Jl610, Jl940, Jl968, Jl999, Jl1134, Jl1152, Jl2048, Jl4608, Jl9999, Jl99999, Jl100000, Jl147456, Jl12345, Jl1103515245, Jl100000000, Jlm1, Jlm2, J_add, J_sub, J_mul, J_lt, J_le, J_eq, J_ite, J_cl, ri_j, wi_j, b2i_z, b2i_o, b2i_zo, Int.cast_ofNat_Int, Int.natCast_zero, Int.natCast_one, if_true, if_false, ite_self, Int.le_refl, J_bit, J_or, J_neg, J_oN, Int.reduceEq, Int.reduceLT, Int.reduceLE, Int.reduceNeg, Int.reduceAdd, Int.reduceSub, Int.reduceMul, Int.reduceToNat, J_shl, J_shr, V_ite, true_or, or_true, nz_j, J_div, J_rem, Option.bind_some, Option.toList_some, Option.toList_none, List.cons_append, List.nil_append, Jl21, Jl23, Jl25, Jl74, Jl83, Jl288, Jl324, Jl1800, Jlm8]
      repeat (first | rw [if_neg (by omega)] | rw [if_pos (by omega)])
    · rw [decide_eq_false (fun q => c2 q.2)]
      simp (disch := omega) only [e172, b172_0, b172_6, b172_12, b172_16, b172_17, b2i_f, Jl0, Jl1, Jl2, Jl3, Jl4, Jl5, Jl6, Jl7, Jl8, Jl9, Jl10, Jl11, Jl12, Jl13, Jl14, Jl15, Jl16, Jl17, Jl18, Jl19, Jl20, Jl22, Jl24, Jl28, Jl30, Jl31, Jl32, Jl35, Jl36, Jl37, Jl38, Jl39, Jl40, Jl48, Jl57, Jl59, Jl60, Jl61, Jl63, Jl64, Jl68, Jl69, Jl96, Jl97, Jl98, Jl99, Jl100, Jl122, Jl149, Jl150, Jl165, Jl255, Jl511, Jl512, Jl600, Jl610, Jl940, Jl968, Jl999, Jl1134, Jl1152, Jl2048, Jl4608, Jl9999, Jl99999, Jl100000, Jl147456, Jl12345, Jl1103515245, Jl100000000, Jlm1, Jlm2, J_add, J_sub, J_mul, J_lt, J_le, J_eq, J_ite, J_cl, ri_j, wi_j, b2i_z, b2i_o, b2i_zo, Int.cast_ofNat_Int, Int.natCast_zero, Int.natCast_one, if_true, if_false, ite_self, Int.le_refl, J_bit, J_or, J_neg, J_oN, Int.reduceEq, Int.reduceLT, Int.reduceLE, Int.reduceNeg, Int.reduceAdd, Int.reduceSub, Int.reduceMul, Int.reduceToNat, J_shl, J_shr, V_ite, true_or, or_true, nz_j, J_div, J_rem, Option.bind_some, Option.toList_some, Option.toList_none, List.cons_append, List.nil_append, Jl21, Jl23, Jl25, Jl74, Jl83, Jl288, Jl324, Jl1800, Jlm8]
      repeat (first | rw [if_neg (by omega)] | rw [if_pos (by omega)])
  · rw [decide_eq_false (fun q => c q.1)]
    simp (disch := omega) only [e172, b172_0, b172_6, b172_12, b172_16, b172_17, b2i_f, Jl0, Jl1, Jl2, Jl3, Jl4, Jl5, Jl6, Jl7, Jl8, Jl9, Jl10, Jl11, Jl12, Jl13, Jl14, Jl15, Jl16, Jl17, Jl18, Jl19, Jl20, Jl22, Jl24, Jl28, Jl30, Jl31, Jl32, Jl35, Jl36, Jl37, Jl38, Jl39, Jl40, Jl48, Jl57, Jl59, Jl60, Jl61, Jl63, Jl64, Jl68, Jl69, Jl96, Jl97, Jl98, Jl99, Jl100, Jl122, Jl149, Jl150, Jl165, Jl255, Jl511, Jl512, Jl600, Jl610, Jl940, Jl968, Jl999, Jl1134, Jl1152, Jl2048, Jl4608, Jl9999, Jl99999, Jl100000, Jl147456, Jl12345, Jl1103515245, Jl100000000, Jlm1, Jlm2, J_add, J_sub, J_mul, J_lt, J_le, J_eq, J_ite, J_cl, ri_j, wi_j, b2i_z, b2i_o, b2i_zo, Int.cast_ofNat_Int, Int.natCast_zero, Int.natCast_one, if_true, if_false, ite_self, Int.le_refl, J_bit, J_or, J_neg, J_oN, Int.reduceEq, Int.reduceLT, Int.reduceLE, Int.reduceNeg, Int.reduceAdd, Int.reduceSub, Int.reduceMul, Int.reduceToNat, J_shl, J_shr, V_ite, true_or, or_true, nz_j, J_div, J_rem, Option.bind_some, Option.toList_some, Option.toList_none, List.cons_append, List.nil_append, Jl21, Jl23, Jl25, Jl74, Jl83, Jl288, Jl324, Jl1800, Jlm8]
    repeat (first | rw [if_neg (by omega)] | rw [if_pos (by omega)])
theorem dig_sp (hd : 1 ≤ d) (hx : i32 x) : cl E lo d 173 [.int (J (x))] μ = some (some (.int (J (b2i (dG x)))), μ) := by
  obtain ⟨d, rfl⟩ : ∃ e, d = e + 1 := ⟨d - 1, by omega⟩
  unfold i32 at hx
  unfold dG
  by_cases c : 48 ≤ x
  · by_cases c2 : x ≤ 57
    · rw [decide_eq_true ⟨c, c2⟩]
      simp (disch := omega) only [e173, b173_0, b173_6, b173_12, b173_16, b173_17, b2i_t, Jl0, Jl1, Jl2, Jl3, Jl4, Jl5, Jl6, Jl7, Jl8, Jl9, Jl10, Jl11, Jl12, Jl13, Jl14, Jl15, Jl16, Jl17, Jl18, Jl19, Jl20, Jl22, Jl24, Jl28, Jl30, Jl31, Jl32, Jl35, Jl36, Jl37, Jl38, Jl39, Jl40, Jl48, Jl57, Jl59, Jl60, Jl61, Jl63, Jl64, Jl68, Jl69, Jl96, Jl97, Jl98, Jl99, Jl100, Jl122, Jl149, Jl150, Jl165, Jl255, Jl511, Jl512, Jl600, Jl610, Jl940, Jl968, Jl999, Jl1134, Jl1152, Jl2048, Jl4608, Jl9999, Jl99999, Jl100000, Jl147456, Jl12345, Jl1103515245, Jl100000000, Jlm1, Jlm2, J_add, J_sub, J_mul, J_lt, J_le, J_eq, J_ite, J_cl, ri_j, wi_j, b2i_z, b2i_o, b2i_zo, Int.cast_ofNat_Int, Int.natCast_zero, Int.natCast_one, if_true, if_false, ite_self, Int.le_refl, J_bit, J_or, J_neg, J_oN, Int.reduceEq, Int.reduceLT, Int.reduceLE, Int.reduceNeg, Int.reduceAdd, Int.reduceSub, Int.reduceMul, Int.reduceToNat, J_shl, J_shr, V_ite, true_or, or_true, nz_j, J_div, J_rem, Option.bind_some, Option.toList_some, Option.toList_none, List.cons_append, List.nil_append, Jl21, Jl23, Jl25, Jl74, Jl83, Jl288, Jl324, Jl1800, Jlm8]
      repeat (first | rw [if_neg (by omega)] | rw [if_pos (by omega)])
    · rw [decide_eq_false (fun q => c2 q.2)]
      simp (disch := omega) only [e173, b173_0, b173_6, b173_12, b173_16, b173_17, b2i_f, Jl0, Jl1, Jl2, Jl3, Jl4, Jl5, Jl6, Jl7, Jl8, Jl9, Jl10, Jl11, Jl12, Jl13, Jl14, Jl15, Jl16, Jl17, Jl18, Jl19, Jl20, Jl22, Jl24, Jl28, Jl30, Jl31, Jl32, Jl35, Jl36, Jl37, Jl38, Jl39, Jl40, Jl48, Jl57, Jl59, Jl60, Jl61, Jl63, Jl64, Jl68, Jl69, Jl96, Jl97, Jl98, Jl99, Jl100, Jl122, Jl149, Jl150, Jl165, Jl255, Jl511, Jl512, Jl600, Jl610, Jl940, Jl968, Jl999, Jl1134, Jl1152, Jl2048, Jl4608, Jl9999, Jl99999, Jl100000, Jl147456, Jl12345, Jl1103515245, Jl100000000, Jlm1, Jlm2, J_add, J_sub, J_mul, J_lt, J_le, J_eq, J_ite, J_cl, ri_j, wi_j, b2i_z, b2i_o, b2i_zo, Int.cast_ofNat_Int, Int.natCast_zero, Int.natCast_one, if_true, if_false, ite_self, Int.le_refl, J_bit, J_or, J_neg, J_oN, Int.reduceEq, Int.reduceLT, Int.reduceLE, Int.reduceNeg, Int.reduceAdd, Int.reduceSub, Int.reduceMul, Int.reduceToNat, J_shl, J_shr, V_ite, true_or, or_true, nz_j, J_div, J_rem, Option.bind_some, Option.toList_some, Option.toList_none, List.cons_append, List.nil_append, Jl21, Jl23, Jl25, Jl74, Jl83, Jl288, Jl324, Jl1800, Jlm8]
      repeat (first | rw [if_neg (by omega)] | rw [if_pos (by omega)])
  · rw [decide_eq_false (fun q => c q.1)]
    simp (disch := omega) only [e173, b173_0, b173_6, b173_12, b173_16, b173_17, b2i_f, Jl0, Jl1, Jl2, Jl3, Jl4, Jl5, Jl6, Jl7, Jl8, Jl9, Jl10, Jl11, Jl12, Jl13, Jl14, Jl15, Jl16, Jl17, Jl18, Jl19, Jl20, Jl22, Jl24, Jl28, Jl30, Jl31, Jl32, Jl35, Jl36, Jl37, Jl38, Jl39, Jl40, Jl48, Jl57, Jl59, Jl60, Jl61, Jl63, Jl64, Jl68, Jl69, Jl96, Jl97, Jl98, Jl99, Jl100, Jl122, Jl149, Jl150, Jl165, Jl255, Jl511, Jl512, Jl600, Jl610, Jl940, Jl968, Jl999, Jl1134, Jl1152, Jl2048, Jl4608, Jl9999, Jl99999, Jl100000, Jl147456, Jl12345, Jl1103515245, Jl100000000, Jlm1, Jlm2, J_add, J_sub, J_mul, J_lt, J_le, J_eq, J_ite, J_cl, ri_j, wi_j, b2i_z, b2i_o, b2i_zo, Int.cast_ofNat_Int, Int.natCast_zero, Int.natCast_one, if_true, if_false, ite_self, Int.le_refl, J_bit, J_or, J_neg, J_oN, Int.reduceEq, Int.reduceLT, Int.reduceLE, Int.reduceNeg, Int.reduceAdd, Int.reduceSub, Int.reduceMul, Int.reduceToNat, J_shl, J_shr, V_ite, true_or, or_true, nz_j, J_div, J_rem, Option.bind_some, Option.toList_some, Option.toList_none, List.cons_append, List.nil_append, Jl21, Jl23, Jl25, Jl74, Jl83, Jl288, Jl324, Jl1800, Jlm8]
    repeat (first | rw [if_neg (by omega)] | rw [if_pos (by omega)])
end REF
