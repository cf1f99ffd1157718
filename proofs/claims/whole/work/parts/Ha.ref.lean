/-! THE REFERENCE'S ANSWERS: stand-ins -/
/-- who may stand in -/
def myQ (S : Nat → Int → Int) (k j : Int) : Bool := decide (j < S 0 3 ∧ S 2 j = 0 ∧ S 3 j = S 3 k)
/-- whether a number spells stand-ins of the last m, some of whom stand in already -/
def stR (S : Nat → Int → Int) : Nat → Int → Int → Bool
  | 0, _, _ => true
  | m + 1, c, met => if S 2 (S 0 3 - (m + 1)) = 3 then (if c % 10 = 9 then stR S m (c / 10) met else (myQ S (S 0 3 - (m + 1)) (c % 10) && !tb met (c % 10)) && stR S m (c / 10) (so met (p2 (c % 10)))) else stR S m c met
/-- whom it spells -/
def siR (S : Nat → Int → Int) : Nat → Int → Int → Int
  | 0, _, _ => -1
  | m + 1, c, j => if S 2 (S 0 3 - (m + 1)) = 3 then (if j = S 0 3 - (m + 1) then (if c % 10 = 9 then -1 else c % 10) else siR S m (c / 10) j) else siR S m c j
theorem stR_s {S : Nat → Int → Int} {m : Nat} {c met : Int} : stR S (m + 1) c met = if S 2 (S 0 3 - (m + 1)) = 3 then (if c % 10 = 9 then stR S m (c / 10) met else (myQ S (S 0 3 - (m + 1)) (c % 10) && !tb met (c % 10)) && stR S m (c / 10) (so met (p2 (c % 10)))) else stR S m c met := rfl
theorem siR_s {S : Nat → Int → Int} {m : Nat} {c j : Int} : siR S (m + 1) c j = if S 2 (S 0 3 - (m + 1)) = 3 then (if j = S 0 3 - (m + 1) then (if c % 10 = 9 then -1 else c % 10) else siR S m (c / 10) j) else siR S m c j := rfl
/-- how many rich ones are ahead -/
def rhQ (S : Nat → Int → Int) (k : Int) : Int := sm (fun k => if S 2 k = 3 then 1 else 0) k
theorem rhQ_s {S : Nat → Int → Int} {k : Int} (h : 0 ≤ k) : rhQ S (k + 1) = rhQ S k + if S 2 k = 3 then 1 else 0 := sm_s _ h
theorem rhQ_b {S : Nat → Int → Int} {k : Int} (h : 0 ≤ k) : 0 ≤ rhQ S k ∧ rhQ S k ≤ k := by
  have := sm_b (fun k => if S 2 k = 3 then 1 else 0) (n := k) (A := 0) (B := 1) h (fun i _ _ => by split <;> omega)
  unfold rhQ
  omega
theorem rhQ_m {S : Nat → Int → Int} {k n : Int} (h : 0 ≤ k) (hn : k ≤ n) : rhQ S k ≤ rhQ S n := by
  obtain ⟨m, rfl⟩ : ∃ m : Nat, n = k + m := ⟨(n - k).toNat, by omega⟩
  clear hn
  induction m with
  | zero => rw [show k + ((0 : Nat) : Int) = k by omega]; omega
  | succ m ih =>
    rw [show k + ((m + 1 : Nat) : Int) = k + m + 1 by omega, rhQ_s (by omega)]
    split <;> omega
def p10 (j : Int) : Int := ((10 ^ j.toNat : Nat) : Int)
theorem p10_s {j : Int} (h : 0 ≤ j) : p10 (j + 1) = p10 j * 10 := by
  unfold p10
  rw [show (j + 1).toNat = j.toNat + 1 by omega, Nat.pow_succ]
  omega
theorem p10_p (j : Int) : 0 < p10 j := by
  unfold p10
  have : 0 < 10 ^ j.toNat := Nat.pow_pos (by decide)
  omega
theorem p10_b {j n : Int} (h : j ≤ n) : p10 j ≤ p10 n := by
  unfold p10
  have : 10 ^ j.toNat ≤ 10 ^ n.toNat := Nat.pow_le_pow_right (by decide) (by omega)
  omega
theorem siR_b {S : Nat → Int → Int} {m : Nat} {c j : Int} : -1 ≤ siR S m c j ∧ siR S m c j ≤ 8 := by
  induction m generalizing c with
  | zero => unfold siR; omega
  | succ m ih =>
    unfold siR
    split
    · split
      · split <;> omega
      · exact ih
    · exact ih
/-- a spelled stand-in is there -/
theorem siR_o {S : Nat → Int → Int} {m : Nat} {c met j : Int} (h : stR S m c met = true) : siR S m c j < S 0 3 ∨ siR S m c j = -1 := by
  induction m generalizing c met with
  | zero => exact Or.inr rfl
  | succ m ih =>
    unfold stR at h
    unfold siR
    split at h
    · rename_i hr
      rw [if_pos hr]
      split at h
      · rename_i h9
        split
        · exact Or.inr rfl
        · exact ih h
      · rename_i h9
        rw [Bool.and_eq_true, Bool.and_eq_true] at h
        split
        · have := h.1.1
          unfold myQ at this
          rw [decide_eq_true_eq] at this
          exact Or.inl this.1
        · exact ih h.2
    · rename_i hr
      rw [if_neg hr]
      exact ih h
theorem siR_r {S : Nat → Int → Int} {m : Nat} {c j : Int} (h : siR S m c j ≠ -1) : S 2 j = 3 := by
  induction m generalizing c with
  | zero => exact absurd rfl h
  | succ m ih =>
    unfold siR at h
    split at h
    · split at h
      · rename_i h1 h2; rw [h2]; exact h1
      · exact ih h
    · exact ih h
/-- what is due by a number -/
def G9 (S L T : Nat → Int → Int) (si : Int → Int) : Int := sm (dueT S L T (rdN S si T)) (S 0 3)
/-- in how many ways; the least -/
def sdW (S : Nat → Int → Int) (N : Int) : Int := sm (fun c => b2i (stR S (S 0 3).toNat c 0)) N
def sdL (S : Nat → Int → Int) (G : Int → Int) (N : Int) : Int := fo (fun c v => if stR S (S 0 3).toNat c 0 = true then (if v = -1 then G c else if v < G c then v else G c) else v) (-1) N
theorem sdL_b {S : Nat → Int → Int} {G : Int → Int} {N : Int} (hn : 0 ≤ N) (hG : ∀ c, stR S (S 0 3).toNat c 0 = true → 0 ≤ G c ∧ G c ≤ 9000) : -1 ≤ sdL S G N ∧ sdL S G N ≤ 9000 := by
  refine fo_ind (fun i x => -1 ≤ x ∧ x ≤ 9000) _ _ hn (by omega) ?_
  intro i x h1 h2 h3
  split
  · rename_i h4
    have := hG i h4
    split
    · omega
    · split <;> omega
  · exact h3
section REF
variable {E : (Nat → Value) × (Nat → Nat)} {lo d m : Nat} {μ : rM} {I M S L R C T : Nat → Int → Int} {k u x y z h w s r n c j : Int} {b : Bool}
theorem may_sp (hd : 2 ≤ d) (hM : ShM μ m) (hR : RS M S) (hV : SV S) (hj : 0 ≤ j ∧ j < S 0 3) (hk : 0 ≤ k ∧ k < S 0 3) : cl E lo d 262 [.ref m, .int (J (j)), .int (J (k))] (mj μ (sB I m 26 M)) = some (some (.int (J (b2i (myQ S k j)))), mj μ (sB I m 26 M)) := by
  obtain ⟨d, rfl⟩ : ∃ e, d = e + 1 := ⟨d - 1, by omega⟩
  have v := hV.1
  have vk := hV.2.2.1 k hk.1 hk.2
  have vj := hV.2.2.1 j hj.1 hj.2
  simp (disch := omega) only [e262, b262_0, b262_6, b262_9, b262_15, b262_21, b262_24, b262_28, b262_29, gO_M hM, gR_M0 hM, gR_M1 hM, gR_M11 hM, gR_M13 hM, gR_M14 hM, gR_M15 hM, gR_M16 hM, gR_M17 hM, gR_M22 hM, gR_M32 hM, gR_M33 hM, gR_M34 hM, gR_M35 hM, gR_M36 hM, gR_M37 hM, gR_M38 hM, gR_M41 hM, gR_M42 hM, gR_M43 hM, gR_M45 hM, gR_M46 hM, gR_M47 hM, gR_M50 hM, gR_M51 hM, gR_M52 hM, al_M1 hM, al_M2 hM, al_M3 hM, al_M4 hM, al_M5 hM, al_M6 hM, al_M7 hM, al_M8 hM, al_M9 hM, al_M10 hM, al_M11 hM, al_M12 hM, al_M13 hM, al_M14 hM, al_M15 hM, al_M16 hM, al_M17 hM, al_M18 hM, al_M19 hM, al_M20 hM, al_M21 hM, al_M22 hM, al_M23 hM, al_M24 hM, al_M25 hM, rd_M1 hM, rd_M2 hM, rd_M3 hM, rd_M4 hM, rd_M5 hM, rd_M6 hM, rd_M7 hM, rd_M8 hM, rd_M9 hM, rd_M10 hM, rd_M11 hM, rd_M12 hM, rd_M13 hM, rd_M14 hM, rd_M15 hM, rd_M16 hM, rd_M17 hM, rd_M18 hM, rd_M19 hM, rd_M20 hM, rd_M21 hM, rd_M22 hM, rd_M23 hM, rd_M24 hM, rd_M25 hM, of_0, of_1, Jl0, Jl1, Jl2, Jl3, Jl4, Jl5, Jl6, Jl7, Jl8, Jl9, Jl10, Jl11, Jl12, Jl13, Jl14, Jl15, Jl16, Jl17, Jl18, Jl19, Jl20, Jl22, Jl24, Jl28, Jl30, Jl31, Jl32, Jl35, Jl36, Jl37, Jl38, Jl39, Jl40, Jl48, Jl57, Jl59, Jl60, Jl61, Jl63, Jl64, Jl68, Jl69, Jl96, Jl97, Jl98, Jl99, Jl100, Jl122, Jl149, Jl150, Jl165, Jl255, Jl511, Jl512, Jl600, Jl610, Jl940, Jl968, Jl999, Jl1134, Jl1152, Jl2048, Jl4608, Jl9999, Jl99999, Jl100000, Jl147456, Jl12345, Jl1103515245, Jl100000000, Jlm1, Jlm2, J_add, J_sub, J_mul, J_lt, J_le, J_eq, J_ite, J_cl, ri_j, wi_j, b2i_z, b2i_o, b2i_zo, Int.cast_ofNat_Int, Int.natCast_zero, Int.natCast_one, if_true, if_false, ite_self, Int.le_refl, J_bit, J_or, J_neg, J_oN, Int.reduceEq, Int.reduceLT, Int.reduceLE, Int.reduceNeg, Int.reduceAdd, Int.reduceSub, Int.reduceMul, Int.reduceToNat, J_shl, J_shr, V_ite, true_or, or_true, nz_j, J_div, J_rem, Option.bind_some, Option.toList_some, Option.toList_none, List.cons_append, List.nil_append, Jl21, Jl23, Jl25, Jl74, Jl83, Jl288, Jl324, Jl1800, Jlm8]
  refine V_ok _ ?_
  unfold myQ
  grind [b2i]
/-- the rich ones stand in their row -/
def RI (M S : Nat → Int → Int) : Prop := M 0 48 = rhQ S (S 0 3) ∧ ∀ k, 0 ≤ k → k < S 0 3 → S 2 k = 3 → M 22 (rhQ S k) = k
theorem lay_loop (hd : 3 ≤ d) (hM : ShM μ m) (hl : lo ≤ m) (hV : SV S) : ∀ (f : Nat) (M : Nat → Int → Int) (c met : Int) (ok : Bool) (q6 : Option Value), (f : Int) ≤ S 0 3 → RS M S → RI M S → 0 ≤ c → c < 1000000 → 0 ≤ met → met < 512 → ∃ M', ex PG E lo d 263 10 [some (.ref m), some (.int (J (x))), some (.int (J (c))), some (.int (J (met))), some (.int (J (b2i ok))), some (.int (J ((rhQ S (S 0 3 - f))))), q6] [] (mj μ (sB I m 26 M)) = some (some (.int (J (b2i (ok && stR S f c met)))), mj μ (sB I m 26 M')) ∧ (∀ a, a ≠ 6 → M' a = M a) ∧ ∀ j, 0 ≤ j → j < S 0 3 → M' 6 j = if S 0 3 - f ≤ j ∧ S 2 j = 3 then siR S f c j else M 6 j := by
  have v := hV.1
  intro f
  induction f with
  | zero =>
    intro M c met ok q6 hf hR hI hc hc2 hm hm2
    refine ⟨M, ?_, fun _ _ => rfl, fun j g1 g2 => by rw [if_neg (by omega)]⟩
    have e : rhQ S (S 0 3 - ((0 : Nat) : Int)) = rhQ S (S 0 3) := by rw [show S 0 3 - ((0 : Nat) : Int) = S 0 3 by omega]
    have rb := rhQ_b (S := S) (k := S 0 3) (by omega)
    rw [b263_10, e]
    unfold stR
    simp (disch := omega) only [b263_124, gO_M hM, gR_M0 hM, gR_M1 hM, gR_M11 hM, gR_M13 hM, gR_M14 hM, gR_M15 hM, gR_M16 hM, gR_M17 hM, gR_M22 hM, gR_M32 hM, gR_M33 hM, gR_M34 hM, gR_M35 hM, gR_M36 hM, gR_M37 hM, gR_M38 hM, gR_M41 hM, gR_M42 hM, gR_M43 hM, gR_M45 hM, gR_M46 hM, gR_M47 hM, gR_M50 hM, gR_M51 hM, gR_M52 hM, al_M1 hM, al_M2 hM, al_M3 hM, al_M4 hM, al_M5 hM, al_M6 hM, al_M7 hM, al_M8 hM, al_M9 hM, al_M10 hM, al_M11 hM, al_M12 hM, al_M13 hM, al_M14 hM, al_M15 hM, al_M16 hM, al_M17 hM, al_M18 hM, al_M19 hM, al_M20 hM, al_M21 hM, al_M22 hM, al_M23 hM, al_M24 hM, al_M25 hM, rd_M1 hM, rd_M2 hM, rd_M3 hM, rd_M4 hM, rd_M5 hM, rd_M6 hM, rd_M7 hM, rd_M8 hM, rd_M9 hM, rd_M10 hM, rd_M11 hM, rd_M12 hM, rd_M13 hM, rd_M14 hM, rd_M15 hM, rd_M16 hM, rd_M17 hM, rd_M18 hM, rd_M19 hM, rd_M20 hM, rd_M21 hM, rd_M22 hM, rd_M23 hM, rd_M24 hM, rd_M25 hM, sB_0, sB_c, u3_sB0, u3_sB, u3_s, u3_n, Nat.reduceLT, hI.1, Bool.and_true, Jl0, Jl1, Jl2, Jl3, Jl4, Jl5, Jl6, Jl7, Jl8, Jl9, Jl10, Jl11, Jl12, Jl13, Jl14, Jl15, Jl16, Jl17, Jl18, Jl19, Jl20, Jl22, Jl24, Jl28, Jl30, Jl31, Jl32, Jl35, Jl36, Jl37, Jl38, Jl39, Jl40, Jl48, Jl57, Jl59, Jl60, Jl61, Jl63, Jl64, Jl68, Jl69, Jl96, Jl97, Jl98, Jl99, Jl100, Jl122, Jl149, Jl150, Jl165, Jl255, Jl511, Jl512, Jl600, Jl610, Jl940, Jl968, Jl999, Jl1134, Jl1152, Jl2048, Jl4608, Jl9999, Jl99999, Jl100000, Jl147456, Jl12345, Jl1103515245, Jl100000000, Jlm1, Jlm2, J_add, J_sub, J_mul, J_lt, J_le, J_eq, J_ite, J_cl, ri_j, wi_j, b2i_z, b2i_o, b2i_zo, Int.cast_ofNat_Int, Int.natCast_zero, Int.natCast_one, if_true, if_false, ite_self, Int.le_refl, J_bit, J_or, J_neg, J_oN, Int.reduceEq, Int.reduceLT, Int.reduceLE, Int.reduceNeg, Int.reduceAdd, Int.reduceSub, Int.reduceMul, Int.reduceToNat, J_shl, J_shr, V_ite, true_or, or_true, nz_j, J_div, J_rem, Option.bind_some, Option.toList_some, Option.toList_none, List.cons_append, List.nil_append, Jl21, Jl23, Jl25, Jl74, Jl83, Jl288, Jl324, Jl1800, Jlm8]
  | succ f ih =>
    intro M c met ok q6 hf hR hI hc hc2 hm hm2
    have ek : S 0 3 - ((f + 1 : Nat) : Int) + 1 = S 0 3 - f := by omega
    generalize hk : S 0 3 - ((f + 1 : Nat) : Int) = k at *
    have hk0 : 0 ≤ k ∧ k < S 0 3 := by omega
    have er : rhQ S (S 0 3 - f) = rhQ S k + if S 2 k = 3 then 1 else 0 := by rw [← ek, rhQ_s hk0.1]
    have rb := rhQ_b (S := S) (k := k) hk0.1
    have rb2 := rhQ_b (S := S) (k := S 0 3) (by omega)
    have rm := rhQ_m (S := S) (k := k + 1) (n := S 0 3) (by omega) (by omega)
    rw [ek, er] at rm
    have hk' : S 0 3 - ((f : Int) + 1) = k := by omega
    by_cases cr : S 2 k = 3
    · rw [if_pos cr] at er rm
      have e22 := hI.2 k hk0.1 hk0.2 cr
      have vk := hV.2.2.1 k hk0.1 hk0.2
      have ed : c - c / 10 * 10 = c % 10 := by omega
      have step : ∀ (dd : Int), dd = (if c % 10 = 9 then -1 else c % 10) → RS (u3 M 6 k dd) S ∧ RI (u3 M 6 k dd) S := by
        intro dd _
        refine ⟨hR.fr (by simp [u3]) (by simp [u3]) (by funext x; simp [u3]) (by funext x; simp [u3]) (by funext x; simp [u3]) (by funext x; simp [u3]) (by funext x; simp [u3]), ?_⟩
        unfold RI
        rw [u3_n (by omega), u3_c (by decide)]
        exact hI
      have fin : ∀ (M' : Nat → Int → Int) (met' : Int), (∀ a, a ≠ 6 → M' a = u3 M 6 k (if c % 10 = 9 then -1 else c % 10) a) → (∀ j, 0 ≤ j → j < S 0 3 → M' 6 j = if S 0 3 - f ≤ j ∧ S 2 j = 3 then siR S f (c / 10) j else u3 M 6 k (if c % 10 = 9 then -1 else c % 10) 6 j) → (∀ a, a ≠ 6 → M' a = M a) ∧ ∀ j, 0 ≤ j → j < S 0 3 → M' 6 j = if k ≤ j ∧ S 2 j = 3 then siR S (f + 1) c j else M 6 j := by
        intro M' met' h1 h2
        refine ⟨fun a ha => by rw [h1 a ha, u3_c ha], fun j g1 g2 => ?_⟩
        rw [h2 j g1 g2]
        rw [siR_s, hk', if_pos cr]
        by_cases cj : j = k
        · subst cj
          rw [if_neg (by omega), u3_s, if_pos (show j ≤ j ∧ S 2 j = 3 from ⟨Int.le_refl _, cr⟩), if_pos (show j = j from rfl)]
        · rw [u3_n (fun q => cj q.2), if_neg cj]
          by_cases c2 : k ≤ j ∧ S 2 j = 3
          · rw [if_pos c2, if_pos (by omega)]
          · rw [if_neg c2, if_neg (by omega)]
      rw [stR_s, hk', if_pos cr]
      by_cases c9 : c % 10 = 9
      · obtain ⟨s1, s2⟩ := step (-1) (by rw [if_pos c9])
        obtain ⟨M', e, h1, h2⟩ := ih (u3 M 6 k (-1)) (c / 10) met ok (some (.int (J 9))) (by omega) s1 s2 (by omega) (by omega) hm hm2
        rw [if_pos c9] at fin
        have f2 := fin M' met h1 h2
        refine ⟨M', ?_, f2.1, f2.2⟩
        rw [if_pos c9, ← e, er, b263_10]
        simp (disch := omega) only [b263_19, b263_48, b263_54, b263_55, b263_62, b263_118, gO_M hM, gR_M0 hM, gR_M1 hM, gR_M11 hM, gR_M13 hM, gR_M14 hM, gR_M15 hM, gR_M16 hM, gR_M17 hM, gR_M22 hM, gR_M32 hM, gR_M33 hM, gR_M34 hM, gR_M35 hM, gR_M36 hM, gR_M37 hM, gR_M38 hM, gR_M41 hM, gR_M42 hM, gR_M43 hM, gR_M45 hM, gR_M46 hM, gR_M47 hM, gR_M50 hM, gR_M51 hM, gR_M52 hM, al_M1 hM, al_M2 hM, al_M3 hM, al_M4 hM, al_M5 hM, al_M6 hM, al_M7 hM, al_M8 hM, al_M9 hM, al_M10 hM, al_M11 hM, al_M12 hM, al_M13 hM, al_M14 hM, al_M15 hM, al_M16 hM, al_M17 hM, al_M18 hM, al_M19 hM, al_M20 hM, al_M21 hM, al_M22 hM, al_M23 hM, al_M24 hM, al_M25 hM, rd_M1 hM, rd_M2 hM, rd_M3 hM, rd_M4 hM, rd_M5 hM, rd_M6 hM, rd_M7 hM, rd_M8 hM, rd_M9 hM, rd_M10 hM, rd_M11 hM, rd_M12 hM, rd_M13 hM, rd_M14 hM, rd_M15 hM, rd_M16 hM, rd_M17 hM, rd_M18 hM, rd_M19 hM, rd_M20 hM, rd_M21 hM, rd_M22 hM, rd_M23 hM, rd_M24 hM, rd_M25 hM, gP_M hM hl, wr_M1 hM hl, wr_M2 hM hl, wr_M3 hM hl, wr_M4 hM hl, wr_M5 hM hl, wr_M6 hM hl, wr_M7 hM hl, wr_M8 hM hl, wr_M9 hM hl, wr_M10 hM hl, wr_M11 hM hl, wr_M12 hM hl, wr_M13 hM hl, wr_M14 hM hl, wr_M15 hM hl, wr_M16 hM hl, wr_M17 hM hl, wr_M18 hM hl, wr_M19 hM hl, wr_M20 hM hl, wr_M21 hM hl, wr_M22 hM hl, wr_M23 hM hl, wr_M24 hM hl, wr_M25 hM hl, sB_0, sB_c, u3_sB0, u3_sB, u3_s, u3_n, Nat.reduceLT, hI.1, e22, ed, c9, Jl0, Jl1, Jl2, Jl3, Jl4, Jl5, Jl6, Jl7, Jl8, Jl9, Jl10, Jl11, Jl12, Jl13, Jl14, Jl15, Jl16, Jl17, Jl18, Jl19, Jl20, Jl22, Jl24, Jl28, Jl30, Jl31, Jl32, Jl35, Jl36, Jl37, Jl38, Jl39, Jl40, Jl48, Jl57, Jl59, Jl60, Jl61, Jl63, Jl64, Jl68, Jl69, Jl96, Jl97, Jl98, Jl99, Jl100, Jl122, Jl149, Jl150, Jl165, Jl255, Jl511, Jl512, Jl600, Jl610, Jl940, Jl968, Jl999, Jl1134, Jl1152, Jl2048, Jl4608, Jl9999, Jl99999, Jl100000, Jl147456, Jl12345, Jl1103515245, Jl100000000, Jlm1, Jlm2, J_add, J_sub, J_mul, J_lt, J_le, J_eq, J_ite, J_cl, ri_j, wi_j, b2i_z, b2i_o, b2i_zo, Int.cast_ofNat_Int, Int.natCast_zero, Int.natCast_one, if_true, if_false, ite_self, Int.le_refl, J_bit, J_or, J_neg, J_oN, Int.reduceEq, Int.reduceLT, Int.reduceLE, Int.reduceNeg, Int.reduceAdd, Int.reduceSub, Int.reduceMul, Int.reduceToNat, J_shl, J_shr, V_ite, true_or, or_true, nz_j, J_div, J_rem, Option.bind_some, Option.toList_some, Option.toList_none, List.cons_append, List.nil_append, Jl21, Jl23, Jl25, Jl74, Jl83, Jl288, Jl324, Jl1800, Jlm8]
        repeat (first | rw [if_neg (by omega)] | rw [if_pos (by omega)])
      · obtain ⟨s1, s2⟩ := step (c % 10) (by rw [if_neg c9])
        have p2b : 0 < p2 (c % 10) ∧ p2 (c % 10) ≤ 256 := by
          have h1 := p2_0 (c % 10)
          have h2 := p2_le (k := c % 10) (m := 8) (by omega)
          have h3 : p2 8 = 256 := by decide
          omega
        have p9e : p2 9 = 512 := by decide
        have sob := so_p2 (s := met) (t := p2 (c % 10)) (k := 9) (by omega) (by omega)
        have iso := iS_sp (E := E) (lo := lo) (d := d) (I := I) (M := u3 M 6 k (c % 10)) (x := c % 10) (by omega) hM s1 hV (by omega)
        obtain ⟨M', e, h1, h2⟩ := ih (u3 M 6 k (c % 10)) (c / 10) (so met (p2 (c % 10))) (ok && (myQ S k (c % 10) && !tb met (c % 10))) (some (.int (J (c % 10)))) (by omega) s1 s2 (by omega) (by omega) sob.1 (by omega)
        rw [if_neg c9] at fin
        have f2 := fin M' met h1 h2
        refine ⟨M', ?_, f2.1, f2.2⟩
        rw [if_neg c9, ← Bool.and_assoc, ← e, er, b263_10]
        by_cases c10 : c % 10 < S 0 3
        · have hmy := may_sp (E := E) (lo := lo) (d := d) (I := I) (M := u3 M 6 k (c % 10)) (j := c % 10) (k := k) (by omega) hM s1 hV (by omega) hk0
          have c11 : 0 ≤ c % 10 ∧ c % 10 < S 0 3 := by omega
          have e22' : u3 M 6 k (c % 10) 22 (rhQ S k) = k := by rw [u3_c (by decide)]; exact e22
          cases ok <;> cases hmq : myQ S k (c % 10) <;> cases htb : tb met (c % 10) <;> simp (disch := omega) only [b263_19, b263_52, b263_54, b263_55, b263_65, b263_70, b263_76, b263_79, b263_92, b263_95, b263_101, b263_104, b263_108, b263_109, b263_118, gO_M hM, gR_M0 hM, gR_M1 hM, gR_M11 hM, gR_M13 hM, gR_M14 hM, gR_M15 hM, gR_M16 hM, gR_M17 hM, gR_M22 hM, gR_M32 hM, gR_M33 hM, gR_M34 hM, gR_M35 hM, gR_M36 hM, gR_M37 hM, gR_M38 hM, gR_M41 hM, gR_M42 hM, gR_M43 hM, gR_M45 hM, gR_M46 hM, gR_M47 hM, gR_M50 hM, gR_M51 hM, gR_M52 hM, al_M1 hM, al_M2 hM, al_M3 hM, al_M4 hM, al_M5 hM, al_M6 hM, al_M7 hM, al_M8 hM, al_M9 hM, al_M10 hM, al_M11 hM, al_M12 hM, al_M13 hM, al_M14 hM, al_M15 hM, al_M16 hM, al_M17 hM, al_M18 hM, al_M19 hM, al_M20 hM, al_M21 hM, al_M22 hM, al_M23 hM, al_M24 hM, al_M25 hM, rd_M1 hM, rd_M2 hM, rd_M3 hM, rd_M4 hM, rd_M5 hM, rd_M6 hM, rd_M7 hM, rd_M8 hM, rd_M9 hM, rd_M10 hM, rd_M11 hM, rd_M12 hM, rd_M13 hM, rd_M14 hM, rd_M15 hM, rd_M16 hM, rd_M17 hM, rd_M18 hM, rd_M19 hM, rd_M20 hM, rd_M21 hM, rd_M22 hM, rd_M23 hM, rd_M24 hM, rd_M25 hM, gP_M hM hl, wr_M1 hM hl, wr_M2 hM hl, wr_M3 hM hl, wr_M4 hM hl, wr_M5 hM hl, wr_M6 hM hl, wr_M7 hM hl, wr_M8 hM hl, wr_M9 hM hl, wr_M10 hM hl, wr_M11 hM hl, wr_M12 hM hl, wr_M13 hM hl, wr_M14 hM hl, wr_M15 hM hl, wr_M16 hM hl, wr_M17 hM hl, wr_M18 hM hl, wr_M19 hM hl, wr_M20 hM hl, wr_M21 hM hl, wr_M22 hM hl, wr_M23 hM hl, wr_M24 hM hl, wr_M25 hM hl, sB_0, sB_c, u3_sB0, u3_sB, u3_s, u3_n, Nat.reduceLT, hI.1, e22, ed, c9, iso, c11, hmy, hmq, in_sp, htb, e22', and_self, decide_true, Bool.true_eq_false, Bool.and_false, Bool.false_and, Bool.and_true, Bool.true_and, Bool.not_true, Bool.not_false, b2i_t, b2i_f, Jl0, Jl1, Jl2, Jl3, Jl4, Jl5, Jl6, Jl7, Jl8, Jl9, Jl10, Jl11, Jl12, Jl13, Jl14, Jl15, Jl16, Jl17, Jl18, Jl19, Jl20, Jl22, Jl24, Jl28, Jl30, Jl31, Jl32, Jl35, Jl36, Jl37, Jl38, Jl39, Jl40, Jl48, Jl57, Jl59, Jl60, Jl61, Jl63, Jl64, Jl68, Jl69, Jl96, Jl97, Jl98, Jl99, Jl100, Jl122, Jl149, Jl150, Jl165, Jl255, Jl511, Jl512, Jl600, Jl610, Jl940, Jl968, Jl999, Jl1134, Jl1152, Jl2048, Jl4608, Jl9999, Jl99999, Jl100000, Jl147456, Jl12345, Jl1103515245, Jl100000000, Jlm1, Jlm2, J_add, J_sub, J_mul, J_lt, J_le, J_eq, J_ite, J_cl, ri_j, wi_j, b2i_z, b2i_o, b2i_zo, Int.cast_ofNat_Int, Int.natCast_zero, Int.natCast_one, if_true, if_false, ite_self, Int.le_refl, J_bit, J_or, J_neg, J_oN, Int.reduceEq, Int.reduceLT, Int.reduceLE, Int.reduceNeg, Int.reduceAdd, Int.reduceSub, Int.reduceMul, Int.reduceToNat, J_shl, J_shr, V_ite, true_or, or_true, nz_j, J_div, J_rem, Option.bind_some, Option.toList_some, Option.toList_none, List.cons_append, List.nil_append, Jl21, Jl23, Jl25, Jl74, Jl83, Jl288, Jl324, Jl1800, Jlm8] <;> repeat (first | rw [if_neg (by omega)] | rw [if_pos (by omega)])
        · have hmq : myQ S k (c % 10) = false := by unfold myQ; rw [decide_eq_false]; exact fun q => c10 q.1
          cases ok <;> simp (disch := omega) only [b263_19, b263_52, b263_54, b263_55, b263_65, b263_70, b263_76, b263_108, b263_109, b263_118, gO_M hM, gR_M0 hM, gR_M1 hM, gR_M11 hM, gR_M13 hM, gR_M14 hM, gR_M15 hM, gR_M16 hM, gR_M17 hM, gR_M22 hM, gR_M32 hM, gR_M33 hM, gR_M34 hM, gR_M35 hM, gR_M36 hM, gR_M37 hM, gR_M38 hM, gR_M41 hM, gR_M42 hM, gR_M43 hM, gR_M45 hM, gR_M46 hM, gR_M47 hM, gR_M50 hM, gR_M51 hM, gR_M52 hM, al_M1 hM, al_M2 hM, al_M3 hM, al_M4 hM, al_M5 hM, al_M6 hM, al_M7 hM, al_M8 hM, al_M9 hM, al_M10 hM, al_M11 hM, al_M12 hM, al_M13 hM, al_M14 hM, al_M15 hM, al_M16 hM, al_M17 hM, al_M18 hM, al_M19 hM, al_M20 hM, al_M21 hM, al_M22 hM, al_M23 hM, al_M24 hM, al_M25 hM, rd_M1 hM, rd_M2 hM, rd_M3 hM, rd_M4 hM, rd_M5 hM, rd_M6 hM, rd_M7 hM, rd_M8 hM, rd_M9 hM, rd_M10 hM, rd_M11 hM, rd_M12 hM, rd_M13 hM, rd_M14 hM, rd_M15 hM, rd_M16 hM, rd_M17 hM, rd_M18 hM, rd_M19 hM, rd_M20 hM, rd_M21 hM, rd_M22 hM, rd_M23 hM, rd_M24 hM, rd_M25 hM, gP_M hM hl, wr_M1 hM hl, wr_M2 hM hl, wr_M3 hM hl, wr_M4 hM hl, wr_M5 hM hl, wr_M6 hM hl, wr_M7 hM hl, wr_M8 hM hl, wr_M9 hM hl, wr_M10 hM hl, wr_M11 hM hl, wr_M12 hM hl, wr_M13 hM hl, wr_M14 hM hl, wr_M15 hM hl, wr_M16 hM hl, wr_M17 hM hl, wr_M18 hM hl, wr_M19 hM hl, wr_M20 hM hl, wr_M21 hM hl, wr_M22 hM hl, wr_M23 hM hl, wr_M24 hM hl, wr_M25 hM hl, sB_0, sB_c, u3_sB0, u3_sB, u3_s, u3_n, Nat.reduceLT, hI.1, e22, ed, c9, iso, c10, hmq, and_false, decide_false, Bool.true_eq_false, Bool.and_false, Bool.false_and, b2i_f, Jl0, Jl1, Jl2, Jl3, Jl4, Jl5, Jl6, Jl7, Jl8, Jl9, Jl10, Jl11, Jl12, Jl13, Jl14, Jl15, Jl16, Jl17, Jl18, Jl19, Jl20, Jl22, Jl24, Jl28, Jl30, Jl31, Jl32, Jl35, Jl36, Jl37, Jl38, Jl39, Jl40, Jl48, Jl57, Jl59, Jl60, Jl61, Jl63, Jl64, Jl68, Jl69, Jl96, Jl97, Jl98, Jl99, Jl100, Jl122, Jl149, Jl150, Jl165, Jl255, Jl511, Jl512, Jl600, Jl610, Jl940, Jl968, Jl999, Jl1134, Jl1152, Jl2048, Jl4608, Jl9999, Jl99999, Jl100000, Jl147456, Jl12345, Jl1103515245, Jl100000000, Jlm1, Jlm2, J_add, J_sub, J_mul, J_lt, J_le, J_eq, J_ite, J_cl, ri_j, wi_j, b2i_z, b2i_o, b2i_zo, Int.cast_ofNat_Int, Int.natCast_zero, Int.natCast_one, if_true, if_false, ite_self, Int.le_refl, J_bit, J_or, J_neg, J_oN, Int.reduceEq, Int.reduceLT, Int.reduceLE, Int.reduceNeg, Int.reduceAdd, Int.reduceSub, Int.reduceMul, Int.reduceToNat, J_shl, J_shr, V_ite, true_or, or_true, nz_j, J_div, J_rem, Option.bind_some, Option.toList_some, Option.toList_none, List.cons_append, List.nil_append, Jl21, Jl23, Jl25, Jl74, Jl83, Jl288, Jl324, Jl1800, Jlm8] <;> repeat (first | rw [if_neg (by omega)] | rw [if_pos (by omega)])
    · rw [if_neg cr, Int.add_zero] at er
      obtain ⟨M', e, h1, h2⟩ := ih M c met ok q6 (by omega) hR hI hc hc2 hm hm2
      refine ⟨M', ?_, h1, fun j g1 g2 => ?_⟩
      · rw [stR_s, hk', if_neg cr, ← e, er]
      · rw [h2 j g1 g2]
        rw [siR_s, hk', if_neg cr]
        by_cases cj : j = k
        · subst cj
          rw [if_neg (fun q => cr q.2), if_neg (fun q => cr q.2)]
        · by_cases c2 : k ≤ j ∧ S 2 j = 3
          · rw [if_pos c2, if_pos (by omega)]
          · rw [if_neg c2, if_neg (by omega)]
/-- ready for other stand-ins -/
def AS (M S L R : Nat → Int → Int) : Prop := RS M S ∧ RL M L ∧ RQ M R ∧ RI M S ∧ M 0 19 = -1 ∧ M 0 31 = 1 ∧ ∀ j, 0 ≤ j → j < S 0 3 → S 2 j ≠ 3 → M 6 j = -1
theorem lay_sp (hd : 4 ≤ d) (hM : ShM μ m) (hl : lo ≤ m) (hV : SV S) (hA : AS M S L R) (hc : 0 ≤ c ∧ c < 1000000) : ∃ M', cl E lo d 263 [.ref m, .int (J (c))] (mj μ (sB I m 26 M)) = some (some (.int (J (b2i (stR S (S 0 3).toNat c 0)))), mj μ (sB I m 26 M')) ∧ (∀ a, a ≠ 6 → M' a = M a) ∧ AS M' S L R ∧ ∀ j, 0 ≤ j → j < S 0 3 → M' 6 j = siR S (S 0 3).toNat c j := by
  obtain ⟨d, rfl⟩ : ∃ e, d = e + 1 := ⟨d - 1, by omega⟩
  have v := hV.1
  obtain ⟨a1, a2, a3, a4, a5, a6, a7⟩ := hA
  obtain ⟨M', e, h1, h2⟩ := lay_loop (E := E) (lo := lo) (d := d) (I := I) (x := c) (by omega) hM hl hV (S 0 3).toNat M c 0 true none (by omega) a1 a4 hc.1 hc.2 (by omega) (by omega)
  have e0 : S 0 3 - ((S 0 3).toNat : Int) = 0 := by omega
  rw [e0] at e h2
  have key : ∀ (f : Nat) (c j : Int), S 2 j ≠ 3 → siR S f c j = -1 := by
    intro f c j hj
    by_cases q : siR S f c j = -1
    · exact q
    · exact absurd (siR_r q) hj
  have h3 : ∀ j, 0 ≤ j → j < S 0 3 → M' 6 j = siR S (S 0 3).toNat c j := by
    intro j g1 g2
    rw [h2 j g1 g2]
    by_cases c3 : S 2 j = 3
    · rw [if_pos ⟨g1, c3⟩]
    · rw [if_neg (fun q => c3 q.2), a7 j g1 g2 c3, key _ _ _ c3]
  refine ⟨M', ?_, h1, ⟨a1.fr (by rw [h1 0 (by decide)]) (by rw [h1 0 (by decide)]) (h1 1 (by decide)) (h1 4 (by decide)) (h1 5 (by decide)) (h1 7 (by decide)) (h1 8 (by decide)), a2.fr (by rw [h1 0 (by decide)]) (h1 1 (by decide)), a3.fr (by rw [h1 0 (by decide)]) (h1 1 (by decide)), ?_, by rw [h1 0 (by decide)]; exact a5, by rw [h1 0 (by decide)]; exact a6, fun j g1 g2 g3 => by rw [h3 j g1 g2, key _ _ _ g3]⟩, h3⟩
  · rw [Bool.true_and, b2i_t, show rhQ S 0 = 0 from rfl] at e
    simp (disch := omega) only [b263_0, e263, Jl0, Jl1, Jl2, Jl3, Jl4, Jl5, Jl6, Jl7, Jl8, Jl9, Jl10, Jl11, Jl12, Jl13, Jl14, Jl15, Jl16, Jl17, Jl18, Jl19, Jl20, Jl22, Jl24, Jl28, Jl30, Jl31, Jl32, Jl35, Jl36, Jl37, Jl38, Jl39, Jl40, Jl48, Jl57, Jl59, Jl60, Jl61, Jl63, Jl64, Jl68, Jl69, Jl96, Jl97, Jl98, Jl99, Jl100, Jl122, Jl149, Jl150, Jl165, Jl255, Jl511, Jl512, Jl600, Jl610, Jl940, Jl968, Jl999, Jl1134, Jl1152, Jl2048, Jl4608, Jl9999, Jl99999, Jl100000, Jl147456, Jl12345, Jl1103515245, Jl100000000, Jlm1, Jlm2, J_add, J_sub, J_mul, J_lt, J_le, J_eq, J_ite, J_cl, ri_j, wi_j, b2i_z, b2i_o, b2i_zo, Int.cast_ofNat_Int, Int.natCast_zero, Int.natCast_one, if_true, if_false, ite_self, Int.le_refl, J_bit, J_or, J_neg, J_oN, Int.reduceEq, Int.reduceLT, Int.reduceLE, Int.reduceNeg, Int.reduceAdd, Int.reduceSub, Int.reduceMul, Int.reduceToNat, J_shl, J_shr, V_ite, true_or, or_true, nz_j, J_div, J_rem, Option.bind_some, Option.toList_some, Option.toList_none, List.cons_append, List.nil_append, Jl21, Jl23, Jl25, Jl74, Jl83, Jl288, Jl324, Jl1800, Jlm8]
    exact e
  · unfold RI at *
    rw [h1 0 (by decide), h1 22 (by decide)]
    exact a4
theorem q_standins (hd : 10 ≤ d) (hM : ShM μ m) (hl : lo ≤ m) (hS : TSt M x S) (hL : TLa M y L) (hR : TRo M z R) (hx : i32 x ∧ i32 y ∧ i32 z) : QR μ I m M (if o3 M x y z = true ∧ rhQ S (S 0 3) ≤ 4 then (if b = true then sdL S (fun c => G9 S L (wlS S R T 40) (siR S (S 0 3).toNat c)) (p10 (rhQ S (S 0 3))) else sdW S (p10 (rhQ S (S 0 3)))) else -1) (cl E lo d 264 [.ref m, .int (J (x)), .int (J (y)), .int (J (z)), .int (J (b2i b))] (mj μ (sB I m 26 M))) := by
  obtain ⟨d, rfl⟩ : ∃ e, d = e + 1 := ⟨d - 1, by omega⟩
  obtain ⟨M1, e1, m1, h3⟩ := are3 (E := E) (lo := lo) (d := d) (I := I) (by omega) hM hl hS hL hR hx
  unfold i32 at hx
  cases p1 : o3 M x y z
  · rw [p1] at e1
    rw [if_neg (fun q => by cases q.1)]
    refine ⟨M1, ?_, m1.1, m1.2⟩
    simp (disch := omega) only [b264_0, b264_7, b264_10, e264, gO_M hM, gR_M0 hM, gR_M1 hM, gR_M11 hM, gR_M13 hM, gR_M14 hM, gR_M15 hM, gR_M16 hM, gR_M17 hM, gR_M22 hM, gR_M32 hM, gR_M33 hM, gR_M34 hM, gR_M35 hM, gR_M36 hM, gR_M37 hM, gR_M38 hM, gR_M41 hM, gR_M42 hM, gR_M43 hM, gR_M45 hM, gR_M46 hM, gR_M47 hM, gR_M50 hM, gR_M51 hM, gR_M52 hM, al_M1 hM, al_M2 hM, al_M3 hM, al_M4 hM, al_M5 hM, al_M6 hM, al_M7 hM, al_M8 hM, al_M9 hM, al_M10 hM, al_M11 hM, al_M12 hM, al_M13 hM, al_M14 hM, al_M15 hM, al_M16 hM, al_M17 hM, al_M18 hM, al_M19 hM, al_M20 hM, al_M21 hM, al_M22 hM, al_M23 hM, al_M24 hM, al_M25 hM, rd_M1 hM, rd_M2 hM, rd_M3 hM, rd_M4 hM, rd_M5 hM, rd_M6 hM, rd_M7 hM, rd_M8 hM, rd_M9 hM, rd_M10 hM, rd_M11 hM, rd_M12 hM, rd_M13 hM, rd_M14 hM, rd_M15 hM, rd_M16 hM, rd_M17 hM, rd_M18 hM, rd_M19 hM, rd_M20 hM, rd_M21 hM, rd_M22 hM, rd_M23 hM, rd_M24 hM, rd_M25 hM, gP_M hM hl, wr_M1 hM hl, wr_M2 hM hl, wr_M3 hM hl, wr_M4 hM hl, wr_M5 hM hl, wr_M6 hM hl, wr_M7 hM hl, wr_M8 hM hl, wr_M9 hM hl, wr_M10 hM hl, wr_M11 hM hl, wr_M12 hM hl, wr_M13 hM hl, wr_M14 hM hl, wr_M15 hM hl, wr_M16 hM hl, wr_M17 hM hl, wr_M18 hM hl, wr_M19 hM hl, wr_M20 hM hl, wr_M21 hM hl, wr_M22 hM hl, wr_M23 hM hl, wr_M24 hM hl, wr_M25 hM hl, sB_0, sB_c, u3_sB0, u3_sB, u3_s, u3_n, Nat.reduceLT, e1, b2i_f, Jl0, Jl1, Jl2, Jl3, Jl4, Jl5, Jl6, Jl7, Jl8, Jl9, Jl10, Jl11, Jl12, Jl13, Jl14, Jl15, Jl16, Jl17, Jl18, Jl19, Jl20, Jl22, Jl24, Jl28, Jl30, Jl31, Jl32, Jl35, Jl36, Jl37, Jl38, Jl39, Jl40, Jl48, Jl57, Jl59, Jl60, Jl61, Jl63, Jl64, Jl68, Jl69, Jl96, Jl97, Jl98, Jl99, Jl100, Jl122, Jl149, Jl150, Jl165, Jl255, Jl511, Jl512, Jl600, Jl610, Jl940, Jl968, Jl999, Jl1134, Jl1152, Jl2048, Jl4608, Jl9999, Jl99999, Jl100000, Jl147456, Jl12345, Jl1103515245, Jl100000000, Jlm1, Jlm2, J_add, J_sub, J_mul, J_lt, J_le, J_eq, J_ite, J_cl, ri_j, wi_j, b2i_z, b2i_o, b2i_zo, Int.cast_ofNat_Int, Int.natCast_zero, Int.natCast_one, if_true, if_false, ite_self, Int.le_refl, J_bit, J_or, J_neg, J_oN, Int.reduceEq, Int.reduceLT, Int.reduceLE, Int.reduceNeg, Int.reduceAdd, Int.reduceSub, Int.reduceMul, Int.reduceToNat, J_shl, J_shr, V_ite, true_or, or_true, nz_j, J_div, J_rem, Option.bind_some, Option.toList_some, Option.toList_none, List.cons_append, List.nil_append, Jl21, Jl23, Jl25, Jl74, Jl83, Jl288, Jl324, Jl1800, Jlm8]
  · rw [p1] at e1
    obtain ⟨⟨s1, s2, s3, s4, s5⟩, hV5, hLV, hRV⟩ := h3 p1
    have hV := hV5.1
    have v := hV.1
    have hTV := (wl_ok (T := T) hV hRV (x := 40) (by omega)).2.1
    have rb := rhQ_b (S := S) (k := S 0 3) (by omega)
    -- the rich ones
    obtain ⟨M2, e2, c1, c2, c3, c4⟩ := loop (fun i M' => ex PG E lo d 264 23 [some (.ref m), some (.int (J (x))), some (.int (J (y))), some (.int (J (z))), some (.int (J (b2i b))), some (.int (J ((if p10 (rhQ S i) < 100000 then p10 (rhQ S i) else 100000)))), some (.int (J (i))), none, none] [] (mj μ (sB I m 26 M'))) (fun i M' => (∀ a, a ≠ 0 → a ≠ 22 → M' a = M1 a) ∧ (∀ j, j ≠ 48 → M' 0 j = M1 0 j) ∧ M' 0 48 = rhQ S i ∧ ∀ k, 0 ≤ k → k < i → S 2 k = 3 → M' 22 (rhQ S k) = k) (a := 0) (n := S 0 3) (fun i M' f1 f2 hP => by
      obtain ⟨c1, c2, c3, c4⟩ := hP
      have hR' : RS M' S := s1.fr (c2 12 (by decide)) (c2 18 (by decide)) (c1 1 (by decide) (by decide)) (c1 4 (by decide) (by decide)) (c1 5 (by decide) (by decide)) (c1 7 (by decide) (by decide)) (c1 8 (by decide) (by decide))
      have hns := nS_sp (E := E) (lo := lo) (d := d) (I := I) (by omega) hM hR'
      have ho := of_0 (E := E) (lo := lo) (d := d) (I := I) (k := i) (by omega) hM hR' hV (by omega)
      have vi := hV.2.2.1 i f1 f2
      have ri := rhQ_b (S := S) (k := i) f1
      have es := rhQ_s (S := S) f1
      have pp := p10_p (rhQ S i)
      by_cases cr : S 2 i = 3
      · rw [if_pos cr] at es
        have ep : (if 100000 < (if p10 (rhQ S i) < 100000 then p10 (rhQ S i) else 100000) * 10 then 100000 else (if p10 (rhQ S i) < 100000 then p10 (rhQ S i) else 100000) * 10) = if p10 (rhQ S (i + 1)) < 100000 then p10 (rhQ S (i + 1)) else 100000 := by
          rw [es, p10_s ri.1]
          split <;> split <;> (try split) <;> omega
        have eq : (if p10 (rhQ S i) < 100000 then p10 (rhQ S i) else 100000) * 10 < 2147483648 ∧ 0 < (if p10 (rhQ S i) < 100000 then p10 (rhQ S i) else 100000) * 10 := by split <;> omega
        refine ⟨u3 (u3 M' 22 (rhQ S i) i) 0 48 (rhQ S i + 1), ?_, fun a g0 g1 => by rw [u3_c g0, u3_c g1, c1 a g0 g1], fun j g => by rw [u3_n (by omega), u3_c (by decide), c2 j g], by rw [u3_s, es], fun k g1 g2 g3 => ?_⟩
        · rw [b264_23, ← ep]
          generalize (if p10 (rhQ S i) < 100000 then p10 (rhQ S i) else 100000) = pq at *
          simp (disch := omega) only [b264_29, b264_32, b264_39, b264_46, b264_57, b264_67, b264_78, b264_80, gO_M hM, gR_M0 hM, gR_M1 hM, gR_M11 hM, gR_M13 hM, gR_M14 hM, gR_M15 hM, gR_M16 hM, gR_M17 hM, gR_M22 hM, gR_M32 hM, gR_M33 hM, gR_M34 hM, gR_M35 hM, gR_M36 hM, gR_M37 hM, gR_M38 hM, gR_M41 hM, gR_M42 hM, gR_M43 hM, gR_M45 hM, gR_M46 hM, gR_M47 hM, gR_M50 hM, gR_M51 hM, gR_M52 hM, al_M1 hM, al_M2 hM, al_M3 hM, al_M4 hM, al_M5 hM, al_M6 hM, al_M7 hM, al_M8 hM, al_M9 hM, al_M10 hM, al_M11 hM, al_M12 hM, al_M13 hM, al_M14 hM, al_M15 hM, al_M16 hM, al_M17 hM, al_M18 hM, al_M19 hM, al_M20 hM, al_M21 hM, al_M22 hM, al_M23 hM, al_M24 hM, al_M25 hM, rd_M1 hM, rd_M2 hM, rd_M3 hM, rd_M4 hM, rd_M5 hM, rd_M6 hM, rd_M7 hM, rd_M8 hM, rd_M9 hM, rd_M10 hM, rd_M11 hM, rd_M12 hM, rd_M13 hM, rd_M14 hM, rd_M15 hM, rd_M16 hM, rd_M17 hM, rd_M18 hM, rd_M19 hM, rd_M20 hM, rd_M21 hM, rd_M22 hM, rd_M23 hM, rd_M24 hM, rd_M25 hM, gP_M hM hl, wr_M1 hM hl, wr_M2 hM hl, wr_M3 hM hl, wr_M4 hM hl, wr_M5 hM hl, wr_M6 hM hl, wr_M7 hM hl, wr_M8 hM hl, wr_M9 hM hl, wr_M10 hM hl, wr_M11 hM hl, wr_M12 hM hl, wr_M13 hM hl, wr_M14 hM hl, wr_M15 hM hl, wr_M16 hM hl, wr_M17 hM hl, wr_M18 hM hl, wr_M19 hM hl, wr_M20 hM hl, wr_M21 hM hl, wr_M22 hM hl, wr_M23 hM hl, wr_M24 hM hl, wr_M25 hM hl, sB_0, sB_c, u3_sB0, u3_sB, u3_s, u3_n, Nat.reduceLT, hns, ho, cr, c3, le_sp, Jl0, Jl1, Jl2, Jl3, Jl4, Jl5, Jl6, Jl7, Jl8, Jl9, Jl10, Jl11, Jl12, Jl13, Jl14, Jl15, Jl16, Jl17, Jl18, Jl19, Jl20, Jl22, Jl24, Jl28, Jl30, Jl31, Jl32, Jl35, Jl36, Jl37, Jl38, Jl39, Jl40, Jl48, Jl57, Jl59, Jl60, Jl61, Jl63, Jl64, Jl68, Jl69, Jl96, Jl97, Jl98, Jl99, Jl100, Jl122, Jl149, Jl150, Jl165, Jl255, Jl511, Jl512, Jl600, Jl610, Jl940, Jl968, Jl999, Jl1134, Jl1152, Jl2048, Jl4608, Jl9999, Jl99999, Jl100000, Jl147456, Jl12345, Jl1103515245, Jl100000000, Jlm1, Jlm2, J_add, J_sub, J_mul, J_lt, J_le, J_eq, J_ite, J_cl, ri_j, wi_j, b2i_z, b2i_o, b2i_zo, Int.cast_ofNat_Int, Int.natCast_zero, Int.natCast_one, if_true, if_false, ite_self, Int.le_refl, J_bit, J_or, J_neg, J_oN, Int.reduceEq, Int.reduceLT, Int.reduceLE, Int.reduceNeg, Int.reduceAdd, Int.reduceSub, Int.reduceMul, Int.reduceToNat, J_shl, J_shr, V_ite, true_or, or_true, nz_j, J_div, J_rem, Option.bind_some, Option.toList_some, Option.toList_none, List.cons_append, List.nil_append, Jl21, Jl23, Jl25, Jl74, Jl83, Jl288, Jl324, Jl1800, Jlm8]
          repeat (first | rw [if_neg (by omega)] | rw [if_pos (by omega)])
        · rw [u3_c (by decide)]
          by_cases ck : k = i
          · subst ck; rw [u3_s]
          · have rk := rhQ_m (S := S) (k := k + 1) (n := i) (by omega) (by omega)
            rw [rhQ_s g1, if_pos g3] at rk
            rw [u3_n (by omega)]
            exact c4 k g1 (by omega) g3
      · rw [if_neg cr, Int.add_zero] at es
        refine ⟨M', ?_, c1, c2, by rw [es]; exact c3, fun k g1 g2 g3 => ?_⟩
        · rw [b264_23, es]
          simp (disch := omega) only [b264_29, b264_32, b264_39, b264_43, b264_80, gO_M hM, gR_M0 hM, gR_M1 hM, gR_M11 hM, gR_M13 hM, gR_M14 hM, gR_M15 hM, gR_M16 hM, gR_M17 hM, gR_M22 hM, gR_M32 hM, gR_M33 hM, gR_M34 hM, gR_M35 hM, gR_M36 hM, gR_M37 hM, gR_M38 hM, gR_M41 hM, gR_M42 hM, gR_M43 hM, gR_M45 hM, gR_M46 hM, gR_M47 hM, gR_M50 hM, gR_M51 hM, gR_M52 hM, al_M1 hM, al_M2 hM, al_M3 hM, al_M4 hM, al_M5 hM, al_M6 hM, al_M7 hM, al_M8 hM, al_M9 hM, al_M10 hM, al_M11 hM, al_M12 hM, al_M13 hM, al_M14 hM, al_M15 hM, al_M16 hM, al_M17 hM, al_M18 hM, al_M19 hM, al_M20 hM, al_M21 hM, al_M22 hM, al_M23 hM, al_M24 hM, al_M25 hM, rd_M1 hM, rd_M2 hM, rd_M3 hM, rd_M4 hM, rd_M5 hM, rd_M6 hM, rd_M7 hM, rd_M8 hM, rd_M9 hM, rd_M10 hM, rd_M11 hM, rd_M12 hM, rd_M13 hM, rd_M14 hM, rd_M15 hM, rd_M16 hM, rd_M17 hM, rd_M18 hM, rd_M19 hM, rd_M20 hM, rd_M21 hM, rd_M22 hM, rd_M23 hM, rd_M24 hM, rd_M25 hM, gP_M hM hl, wr_M1 hM hl, wr_M2 hM hl, wr_M3 hM hl, wr_M4 hM hl, wr_M5 hM hl, wr_M6 hM hl, wr_M7 hM hl, wr_M8 hM hl, wr_M9 hM hl, wr_M10 hM hl, wr_M11 hM hl, wr_M12 hM hl, wr_M13 hM hl, wr_M14 hM hl, wr_M15 hM hl, wr_M16 hM hl, wr_M17 hM hl, wr_M18 hM hl, wr_M19 hM hl, wr_M20 hM hl, wr_M21 hM hl, wr_M22 hM hl, wr_M23 hM hl, wr_M24 hM hl, wr_M25 hM hl, sB_0, sB_c, u3_sB0, u3_sB, u3_s, u3_n, Nat.reduceLT, hns, ho, cr, Jl0, Jl1, Jl2, Jl3, Jl4, Jl5, Jl6, Jl7, Jl8, Jl9, Jl10, Jl11, Jl12, Jl13, Jl14, Jl15, Jl16, Jl17, Jl18, Jl19, Jl20, Jl22, Jl24, Jl28, Jl30, Jl31, Jl32, Jl35, Jl36, Jl37, Jl38, Jl39, Jl40, Jl48, Jl57, Jl59, Jl60, Jl61, Jl63, Jl64, Jl68, Jl69, Jl96, Jl97, Jl98, Jl99, Jl100, Jl122, Jl149, Jl150, Jl165, Jl255, Jl511, Jl512, Jl600, Jl610, Jl940, Jl968, Jl999, Jl1134, Jl1152, Jl2048, Jl4608, Jl9999, Jl99999, Jl100000, Jl147456, Jl12345, Jl1103515245, Jl100000000, Jlm1, Jlm2, J_add, J_sub, J_mul, J_lt, J_le, J_eq, J_ite, J_cl, ri_j, wi_j, b2i_z, b2i_o, b2i_zo, Int.cast_ofNat_Int, Int.natCast_zero, Int.natCast_one, if_true, if_false, ite_self, Int.le_refl, J_bit, J_or, J_neg, J_oN, Int.reduceEq, Int.reduceLT, Int.reduceLE, Int.reduceNeg, Int.reduceAdd, Int.reduceSub, Int.reduceMul, Int.reduceToNat, J_shl, J_shr, V_ite, true_or, or_true, nz_j, J_div, J_rem, Option.bind_some, Option.toList_some, Option.toList_none, List.cons_append, List.nil_append, Jl21, Jl23, Jl25, Jl74, Jl83, Jl288, Jl324, Jl1800, Jlm8]
          repeat (first | rw [if_neg (by omega)] | rw [if_pos (by omega)])
        · by_cases ck : k = i
          · subst ck; exact absurd g3 cr
          · exact c4 k g1 (by omega) g3) (by omega) (u3 M1 0 48 0) ⟨fun a g0 _ => u3_c g0, fun j g => u3_n (by omega), u3_s, fun k g1 g2 => by omega⟩
    have hR2 : RS M2 S := s1.fr (c2 12 (by decide)) (c2 18 (by decide)) (c1 1 (by decide) (by decide)) (c1 4 (by decide) (by decide)) (c1 5 (by decide) (by decide)) (c1 7 (by decide) (by decide)) (c1 8 (by decide) (by decide))
    have hns2 := nS_sp (E := E) (lo := lo) (d := d) (I := I) (by omega) hM hR2
    have head : cl E lo (d + 1) 264 [.ref m, .int (J x), .int (J y), .int (J z), .int (J (b2i b))] (mj μ (sB I m 26 M)) = ex PG E lo d 264 86 [some (.ref m), some (.int (J (x))), some (.int (J (y))), some (.int (J (z))), some (.int (J (b2i b))), some (.int (J ((if p10 (rhQ S (S 0 3)) < 100000 then p10 (rhQ S (S 0 3)) else 100000)))), some (.int (J ((S 0 3)))), none, none] [] (mj μ (sB I m 26 M2)) := by
      simp (disch := omega) only [b264_0, b264_7, b264_12, b264_17, e264, gO_M hM, gR_M0 hM, gR_M1 hM, gR_M11 hM, gR_M13 hM, gR_M14 hM, gR_M15 hM, gR_M16 hM, gR_M17 hM, gR_M22 hM, gR_M32 hM, gR_M33 hM, gR_M34 hM, gR_M35 hM, gR_M36 hM, gR_M37 hM, gR_M38 hM, gR_M41 hM, gR_M42 hM, gR_M43 hM, gR_M45 hM, gR_M46 hM, gR_M47 hM, gR_M50 hM, gR_M51 hM, gR_M52 hM, al_M1 hM, al_M2 hM, al_M3 hM, al_M4 hM, al_M5 hM, al_M6 hM, al_M7 hM, al_M8 hM, al_M9 hM, al_M10 hM, al_M11 hM, al_M12 hM, al_M13 hM, al_M14 hM, al_M15 hM, al_M16 hM, al_M17 hM, al_M18 hM, al_M19 hM, al_M20 hM, al_M21 hM, al_M22 hM, al_M23 hM, al_M24 hM, al_M25 hM, rd_M1 hM, rd_M2 hM, rd_M3 hM, rd_M4 hM, rd_M5 hM, rd_M6 hM, rd_M7 hM, rd_M8 hM, rd_M9 hM, rd_M10 hM, rd_M11 hM, rd_M12 hM, rd_M13 hM, rd_M14 hM, rd_M15 hM, rd_M16 hM, rd_M17 hM, rd_M18 hM, rd_M19 hM, rd_M20 hM, rd_M21 hM, rd_M22 hM, rd_M23 hM, rd_M24 hM, rd_M25 hM, gP_M hM hl, wr_M1 hM hl, wr_M2 hM hl, wr_M3 hM hl, wr_M4 hM hl, wr_M5 hM hl, wr_M6 hM hl, wr_M7 hM hl, wr_M8 hM hl, wr_M9 hM hl, wr_M10 hM hl, wr_M11 hM hl, wr_M12 hM hl, wr_M13 hM hl, wr_M14 hM hl, wr_M15 hM hl, wr_M16 hM hl, wr_M17 hM hl, wr_M18 hM hl, wr_M19 hM hl, wr_M20 hM hl, wr_M21 hM hl, wr_M22 hM hl, wr_M23 hM hl, wr_M24 hM hl, wr_M25 hM hl, sB_0, sB_c, u3_sB0, u3_sB, u3_s, u3_n, Nat.reduceLT, e1, Bool.true_eq_false, Jl0, Jl1, Jl2, Jl3, Jl4, Jl5, Jl6, Jl7, Jl8, Jl9, Jl10, Jl11, Jl12, Jl13, Jl14, Jl15, Jl16, Jl17, Jl18, Jl19, Jl20, Jl22, Jl24, Jl28, Jl30, Jl31, Jl32, Jl35, Jl36, Jl37, Jl38, Jl39, Jl40, Jl48, Jl57, Jl59, Jl60, Jl61, Jl63, Jl64, Jl68, Jl69, Jl96, Jl97, Jl98, Jl99, Jl100, Jl122, Jl149, Jl150, Jl165, Jl255, Jl511, Jl512, Jl600, Jl610, Jl940, Jl968, Jl999, Jl1134, Jl1152, Jl2048, Jl4608, Jl9999, Jl99999, Jl100000, Jl147456, Jl12345, Jl1103515245, Jl100000000, Jlm1, Jlm2, J_add, J_sub, J_mul, J_lt, J_le, J_eq, J_ite, J_cl, ri_j, wi_j, b2i_z, b2i_o, b2i_zo, Int.cast_ofNat_Int, Int.natCast_zero, Int.natCast_one, if_true, if_false, ite_self, Int.le_refl, J_bit, J_or, J_neg, J_oN, Int.reduceEq, Int.reduceLT, Int.reduceLE, Int.reduceNeg, Int.reduceAdd, Int.reduceSub, Int.reduceMul, Int.reduceToNat, J_shl, J_shr, V_ite, true_or, or_true, nz_j, J_div, J_rem, Option.bind_some, Option.toList_some, Option.toList_none, List.cons_append, List.nil_append, Jl21, Jl23, Jl25, Jl74, Jl83, Jl288, Jl324, Jl1800, Jlm8]
      rw [show rhQ S 0 = 0 from rfl, show p10 0 = 1 from rfl, if_pos (by omega)] at e2
      refine e2.trans ?_
      rw [b264_23]
      simp (disch := omega) only [b264_29, gO_M hM, gR_M0 hM, gR_M1 hM, gR_M11 hM, gR_M13 hM, gR_M14 hM, gR_M15 hM, gR_M16 hM, gR_M17 hM, gR_M22 hM, gR_M32 hM, gR_M33 hM, gR_M34 hM, gR_M35 hM, gR_M36 hM, gR_M37 hM, gR_M38 hM, gR_M41 hM, gR_M42 hM, gR_M43 hM, gR_M45 hM, gR_M46 hM, gR_M47 hM, gR_M50 hM, gR_M51 hM, gR_M52 hM, al_M1 hM, al_M2 hM, al_M3 hM, al_M4 hM, al_M5 hM, al_M6 hM, al_M7 hM, al_M8 hM, al_M9 hM, al_M10 hM, al_M11 hM, al_M12 hM, al_M13 hM, al_M14 hM, al_M15 hM, al_M16 hM, al_M17 hM, al_M18 hM, al_M19 hM, al_M20 hM, al_M21 hM, al_M22 hM, al_M23 hM, al_M24 hM, al_M25 hM, rd_M1 hM, rd_M2 hM, rd_M3 hM, rd_M4 hM, rd_M5 hM, rd_M6 hM, rd_M7 hM, rd_M8 hM, rd_M9 hM, rd_M10 hM, rd_M11 hM, rd_M12 hM, rd_M13 hM, rd_M14 hM, rd_M15 hM, rd_M16 hM, rd_M17 hM, rd_M18 hM, rd_M19 hM, rd_M20 hM, rd_M21 hM, rd_M22 hM, rd_M23 hM, rd_M24 hM, rd_M25 hM, hns2, Jl0, Jl1, Jl2, Jl3, Jl4, Jl5, Jl6, Jl7, Jl8, Jl9, Jl10, Jl11, Jl12, Jl13, Jl14, Jl15, Jl16, Jl17, Jl18, Jl19, Jl20, Jl22, Jl24, Jl28, Jl30, Jl31, Jl32, Jl35, Jl36, Jl37, Jl38, Jl39, Jl40, Jl48, Jl57, Jl59, Jl60, Jl61, Jl63, Jl64, Jl68, Jl69, Jl96, Jl97, Jl98, Jl99, Jl100, Jl122, Jl149, Jl150, Jl165, Jl255, Jl511, Jl512, Jl600, Jl610, Jl940, Jl968, Jl999, Jl1134, Jl1152, Jl2048, Jl4608, Jl9999, Jl99999, Jl100000, Jl147456, Jl12345, Jl1103515245, Jl100000000, Jlm1, Jlm2, J_add, J_sub, J_mul, J_lt, J_le, J_eq, J_ite, J_cl, ri_j, wi_j, b2i_z, b2i_o, b2i_zo, Int.cast_ofNat_Int, Int.natCast_zero, Int.natCast_one, if_true, if_false, ite_self, Int.le_refl, J_bit, J_or, J_neg, J_oN, Int.reduceEq, Int.reduceLT, Int.reduceLE, Int.reduceNeg, Int.reduceAdd, Int.reduceSub, Int.reduceMul, Int.reduceToNat, J_shl, J_shr, V_ite, true_or, or_true, nz_j, J_div, J_rem, Option.bind_some, Option.toList_some, Option.toList_none, List.cons_append, List.nil_append, Jl21, Jl23, Jl25, Jl74, Jl83, Jl288, Jl324, Jl1800, Jlm8]
    rw [head]
    by_cases c5 : rhQ S (S 0 3) ≤ 4
    · rw [if_pos ⟨rfl, c5⟩]
      have pp := p10_p (rhQ S (S 0 3))
      have p4 := p10_b c5
      rw [show p10 4 = 10000 from rfl] at p4
      rw [if_pos (show p10 (rhQ S (S 0 3)) < 100000 by omega)]
      have hA0 : AS M2 S L R := by
        refine ⟨hR2, s2.fr (c2 23 (by decide)) (c1 1 (by decide) (by decide)), s3.fr (c2 24 (by decide)) (c1 1 (by decide) (by decide)), ⟨c3, c4⟩, by rw [c2 19 (by decide)]; exact s4.1, by rw [c2 31 (by decide)]; exact s5, fun j g1 g2 g3 => ?_⟩
        rw [c1 6 (by decide) (by decide), s4.2.2 j g1 g2]
        have := siS_SIo hV j g1 g2
        by_cases q : siS S j = -1
        · exact q
        · exact absurd (this.2.2 q) g3
      have hG : ∀ c, stR S (S 0 3).toNat c 0 = true → 0 ≤ G9 S L (wlS S R T 40) (siR S (S 0 3).toNat c) ∧ G9 S L (wlS S R T 40) (siR S (S 0 3).toNat c) ≤ 9000 := fun c hc => sm_due hV hLV hTV (fun j u z1 z2 z3 z4 => rdT_b hV ⟨z1, z2⟩ ⟨z3, z4⟩ (by
        have a := siR_b (S := S) (m := (S 0 3).toNat) (c := c) (j := j)
        have b := siR_o (j := j) hc
        omega)) ⟨by omega, Int.le_refl _⟩
      generalize hgg : (fun c => G9 S L (wlS S R T 40) (siR S (S 0 3).toNat c)) = gg at *
      have hG2 : ∀ c, stR S (S 0 3).toNat c 0 = true → 0 ≤ gg c ∧ gg c ≤ 9000 := by rw [← hgg]; exact hG
      obtain ⟨M3, e3, hA3, n1, n2⟩ := loop (fun i M' => ex PG E lo d 264 105 [some (.ref m), some (.int (J (x))), some (.int (J (y))), some (.int (J (z))), some (.int (J (b2i b))), some (.int (J ((p10 (rhQ S (S 0 3)))))), some (.int (J ((sdW S i)))), some (.int (J ((if b = true then sdL S gg i else -1)))), some (.int (J (i)))] [] (mj μ (sB I m 26 M'))) (fun i M' => AS M' S L R ∧ M' 1 = M 1 ∧ M' 2 = M 2) (a := 0) (n := p10 (rhQ S (S 0 3))) (fun i M' f1 f2 hP => by
        obtain ⟨hA, n1, n2⟩ := hP
        obtain ⟨M4, e4, h1, hA4, h6⟩ := lay_sp (E := E) (lo := lo) (d := d) (I := I) (c := i) (by omega) hM hl hV hA (by omega)
        have ew : sdW S (i + 1) = sdW S i + b2i (stR S (S 0 3).toNat i 0) := sm_s _ f1
        have el : sdL S gg (i + 1) = if stR S (S 0 3).toNat i 0 = true then (if sdL S gg i = -1 then gg i else if sdL S gg i < gg i then sdL S gg i else gg i) else sdL S gg i := fo_s _ _ f1
        have lb := sdL_b (S := S) (G := gg) (N := i) f1 hG2
        have gb := hG2 i
        rw [b264_105, ew, el]
        cases hst : stR S (S 0 3).toNat i 0
        · rw [hst] at e4
          refine ⟨M4, ?_, hA4, by rw [h1 1 (by decide)]; exact n1, by rw [h1 2 (by decide)]; exact n2⟩
          simp (disch := omega) only [b264_112, b264_118, b264_121, b264_165, gO_M hM, gR_M0 hM, gR_M1 hM, gR_M11 hM, gR_M13 hM, gR_M14 hM, gR_M15 hM, gR_M16 hM, gR_M17 hM, gR_M22 hM, gR_M32 hM, gR_M33 hM, gR_M34 hM, gR_M35 hM, gR_M36 hM, gR_M37 hM, gR_M38 hM, gR_M41 hM, gR_M42 hM, gR_M43 hM, gR_M45 hM, gR_M46 hM, gR_M47 hM, gR_M50 hM, gR_M51 hM, gR_M52 hM, al_M1 hM, al_M2 hM, al_M3 hM, al_M4 hM, al_M5 hM, al_M6 hM, al_M7 hM, al_M8 hM, al_M9 hM, al_M10 hM, al_M11 hM, al_M12 hM, al_M13 hM, al_M14 hM, al_M15 hM, al_M16 hM, al_M17 hM, al_M18 hM, al_M19 hM, al_M20 hM, al_M21 hM, al_M22 hM, al_M23 hM, al_M24 hM, al_M25 hM, rd_M1 hM, rd_M2 hM, rd_M3 hM, rd_M4 hM, rd_M5 hM, rd_M6 hM, rd_M7 hM, rd_M8 hM, rd_M9 hM, rd_M10 hM, rd_M11 hM, rd_M12 hM, rd_M13 hM, rd_M14 hM, rd_M15 hM, rd_M16 hM, rd_M17 hM, rd_M18 hM, rd_M19 hM, rd_M20 hM, rd_M21 hM, rd_M22 hM, rd_M23 hM, rd_M24 hM, rd_M25 hM, e4, b2i_f, Int.add_zero, Bool.false_eq_true, Jl0, Jl1, Jl2, Jl3, Jl4, Jl5, Jl6, Jl7, Jl8, Jl9, Jl10, Jl11, Jl12, Jl13, Jl14, Jl15, Jl16, Jl17, Jl18, Jl19, Jl20, Jl22, Jl24, Jl28, Jl30, Jl31, Jl32, Jl35, Jl36, Jl37, Jl38, Jl39, Jl40, Jl48, Jl57, Jl59, Jl60, Jl61, Jl63, Jl64, Jl68, Jl69, Jl96, Jl97, Jl98, Jl99, Jl100, Jl122, Jl149, Jl150, Jl165, Jl255, Jl511, Jl512, Jl600, Jl610, Jl940, Jl968, Jl999, Jl1134, Jl1152, Jl2048, Jl4608, Jl9999, Jl99999, Jl100000, Jl147456, Jl12345, Jl1103515245, Jl100000000, Jlm1, Jlm2, J_add, J_sub, J_mul, J_lt, J_le, J_eq, J_ite, J_cl, ri_j, wi_j, b2i_z, b2i_o, b2i_zo, Int.cast_ofNat_Int, Int.natCast_zero, Int.natCast_one, if_true, if_false, ite_self, Int.le_refl, J_bit, J_or, J_neg, J_oN, Int.reduceEq, Int.reduceLT, Int.reduceLE, Int.reduceNeg, Int.reduceAdd, Int.reduceSub, Int.reduceMul, Int.reduceToNat, J_shl, J_shr, V_ite, true_or, or_true, nz_j, J_div, J_rem, Option.bind_some, Option.toList_some, Option.toList_none, List.cons_append, List.nil_append, Jl21, Jl23, Jl25, Jl74, Jl83, Jl288, Jl324, Jl1800, Jlm8]
          repeat (first | rw [if_neg (by omega)] | rw [if_pos (by omega)])
        · rw [hst] at e4
          cases b
          · refine ⟨M4, ?_, hA4, by rw [h1 1 (by decide)]; exact n1, by rw [h1 2 (by decide)]; exact n2⟩
            simp (disch := omega) only [b264_112, b264_118, b264_124, b264_132, b264_165, gO_M hM, gR_M0 hM, gR_M1 hM, gR_M11 hM, gR_M13 hM, gR_M14 hM, gR_M15 hM, gR_M16 hM, gR_M17 hM, gR_M22 hM, gR_M32 hM, gR_M33 hM, gR_M34 hM, gR_M35 hM, gR_M36 hM, gR_M37 hM, gR_M38 hM, gR_M41 hM, gR_M42 hM, gR_M43 hM, gR_M45 hM, gR_M46 hM, gR_M47 hM, gR_M50 hM, gR_M51 hM, gR_M52 hM, al_M1 hM, al_M2 hM, al_M3 hM, al_M4 hM, al_M5 hM, al_M6 hM, al_M7 hM, al_M8 hM, al_M9 hM, al_M10 hM, al_M11 hM, al_M12 hM, al_M13 hM, al_M14 hM, al_M15 hM, al_M16 hM, al_M17 hM, al_M18 hM, al_M19 hM, al_M20 hM, al_M21 hM, al_M22 hM, al_M23 hM, al_M24 hM, al_M25 hM, rd_M1 hM, rd_M2 hM, rd_M3 hM, rd_M4 hM, rd_M5 hM, rd_M6 hM, rd_M7 hM, rd_M8 hM, rd_M9 hM, rd_M10 hM, rd_M11 hM, rd_M12 hM, rd_M13 hM, rd_M14 hM, rd_M15 hM, rd_M16 hM, rd_M17 hM, rd_M18 hM, rd_M19 hM, rd_M20 hM, rd_M21 hM, rd_M22 hM, rd_M23 hM, rd_M24 hM, rd_M25 hM, e4, b2i_t, Bool.true_eq_false, Bool.false_eq_true, Jl0, Jl1, Jl2, Jl3, Jl4, Jl5, Jl6, Jl7, Jl8, Jl9, Jl10, Jl11, Jl12, Jl13, Jl14, Jl15, Jl16, Jl17, Jl18, Jl19, Jl20, Jl22, Jl24, Jl28, Jl30, Jl31, Jl32, Jl35, Jl36, Jl37, Jl38, Jl39, Jl40, Jl48, Jl57, Jl59, Jl60, Jl61, Jl63, Jl64, Jl68, Jl69, Jl96, Jl97, Jl98, Jl99, Jl100, Jl122, Jl149, Jl150, Jl165, Jl255, Jl511, Jl512, Jl600, Jl610, Jl940, Jl968, Jl999, Jl1134, Jl1152, Jl2048, Jl4608, Jl9999, Jl99999, Jl100000, Jl147456, Jl12345, Jl1103515245, Jl100000000, Jlm1, Jlm2, J_add, J_sub, J_mul, J_lt, J_le, J_eq, J_ite, J_cl, ri_j, wi_j, b2i_z, b2i_o, b2i_zo, Int.cast_ofNat_Int, Int.natCast_zero, Int.natCast_one, if_true, if_false, ite_self, Int.le_refl, J_bit, J_or, J_neg, J_oN, Int.reduceEq, Int.reduceLT, Int.reduceLE, Int.reduceNeg, Int.reduceAdd, Int.reduceSub, Int.reduceMul, Int.reduceToNat, J_shl, J_shr, V_ite, true_or, or_true, nz_j, J_div, J_rem, Option.bind_some, Option.toList_some, Option.toList_none, List.cons_append, List.nil_append, Jl21, Jl23, Jl25, Jl74, Jl83, Jl288, Jl324, Jl1800, Jlm8]
            repeat (first | rw [if_neg (by omega)] | rw [if_pos (by omega)])
          · obtain ⟨a1, a2, a3, a4, a5, a6, a7⟩ := id hA4
            obtain ⟨M5, er, fr, hU⟩ := runG_sp (E := E) (lo := lo) (d := d) (I := I) (T := T) (x := 40) (si := siR S (S 0 3).toNat i) (by omega) hM hl a1 hV a2 hLV a3 hRV ⟨by omega, fun q => by omega, fun j g1 g2 => by
              rw [h6 j g1 g2]
              have a := siR_b (S := S) (m := (S 0 3).toNat) (c := i) (j := j)
              have b := siR_o (j := j) hst
              omega⟩ h6 a6 (by omega)
            have hU2 : RU M5 S L (wlS S R T 40) (rdN S (siR S (S 0 3).toNat i) (wlS S R T 40)) := by
              obtain ⟨y1, y2, y3, y4, y5, y6⟩ := hU
              have he : ∀ j u, 0 ≤ j → j < S 0 3 → 0 ≤ u → u < 36 → rdT S (M4 0 19) (M4 0 20) (M4 0 21) (siR S (S 0 3).toNat i) (wlS S R T 40) j u = rdN S (siR S (S 0 3).toNat i) (wlS S R T 40) j u := fun j u g1 g2 g3 g4 => by
                rw [a5]
                exact rdT_n g1 rfl siR_b.1
              exact ⟨y1, y2, RN_congr he y3, y4, y5, fun j u g1 g2 g3 g4 => by rw [← he j u g1 g2 g3 g4]; exact y6 j u g1 g2 g3 g4⟩
            have hda := doa_sp (E := E) (lo := lo) (d := d) (I := I) (by omega) hM hU2 hV hLV
            have hge : sm (dueT S L (wlS S R T 40) (rdN S (siR S (S 0 3).toNat i) (wlS S R T 40))) (S 0 3) = gg i := by rw [← hgg]; rfl
            rw [hge] at hda
            have gb := gb hst
            refine ⟨M5, ?_, ⟨hU2.1, hU2.2.1, fr.Q a3, ?_, by rw [fr.2 19 (by decide)]; exact a5, by rw [fr.2 31 (by decide)]; exact a6, by rw [fr.1 6 (by decide) (by decide)]; exact a7⟩, by rw [fr.1 1 (by decide) (by decide), h1 1 (by decide)]; exact n1, by rw [fr.1 2 (by decide) (by decide), h1 2 (by decide)]; exact n2⟩
            · by_cases cl1 : sdL S gg i = -1
              · simp (disch := omega) only [b264_112, b264_118, b264_124, b264_135, b264_141, b264_147, b264_151, b264_163, b264_165, gO_M hM, gR_M0 hM, gR_M1 hM, gR_M11 hM, gR_M13 hM, gR_M14 hM, gR_M15 hM, gR_M16 hM, gR_M17 hM, gR_M22 hM, gR_M32 hM, gR_M33 hM, gR_M34 hM, gR_M35 hM, gR_M36 hM, gR_M37 hM, gR_M38 hM, gR_M41 hM, gR_M42 hM, gR_M43 hM, gR_M45 hM, gR_M46 hM, gR_M47 hM, gR_M50 hM, gR_M51 hM, gR_M52 hM, al_M1 hM, al_M2 hM, al_M3 hM, al_M4 hM, al_M5 hM, al_M6 hM, al_M7 hM, al_M8 hM, al_M9 hM, al_M10 hM, al_M11 hM, al_M12 hM, al_M13 hM, al_M14 hM, al_M15 hM, al_M16 hM, al_M17 hM, al_M18 hM, al_M19 hM, al_M20 hM, al_M21 hM, al_M22 hM, al_M23 hM, al_M24 hM, al_M25 hM, rd_M1 hM, rd_M2 hM, rd_M3 hM, rd_M4 hM, rd_M5 hM, rd_M6 hM, rd_M7 hM, rd_M8 hM, rd_M9 hM, rd_M10 hM, rd_M11 hM, rd_M12 hM, rd_M13 hM, rd_M14 hM, rd_M15 hM, rd_M16 hM, rd_M17 hM, rd_M18 hM, rd_M19 hM, rd_M20 hM, rd_M21 hM, rd_M22 hM, rd_M23 hM, rd_M24 hM, rd_M25 hM, e4, er, hda, cl1, b2i_t, Bool.true_eq_false, Jl0, Jl1, Jl2, Jl3, Jl4, Jl5, Jl6, Jl7, Jl8, Jl9, Jl10, Jl11, Jl12, Jl13, Jl14, Jl15, Jl16, Jl17, Jl18, Jl19, Jl20, Jl22, Jl24, Jl28, Jl30, Jl31, Jl32, Jl35, Jl36, Jl37, Jl38, Jl39, Jl40, Jl48, Jl57, Jl59, Jl60, Jl61, Jl63, Jl64, Jl68, Jl69, Jl96, Jl97, Jl98, Jl99, Jl100, Jl122, Jl149, Jl150, Jl165, Jl255, Jl511, Jl512, Jl600, Jl610, Jl940, Jl968, Jl999, Jl1134, Jl1152, Jl2048, Jl4608, Jl9999, Jl99999, Jl100000, Jl147456, Jl12345, Jl1103515245, Jl100000000, Jlm1, Jlm2, J_add, J_sub, J_mul, J_lt, J_le, J_eq, J_ite, J_cl, ri_j, wi_j, b2i_z, b2i_o, b2i_zo, Int.cast_ofNat_Int, Int.natCast_zero, Int.natCast_one, if_true, if_false, ite_self, Int.le_refl, J_bit, J_or, J_neg, J_oN, Int.reduceEq, Int.reduceLT, Int.reduceLE, Int.reduceNeg, Int.reduceAdd, Int.reduceSub, Int.reduceMul, Int.reduceToNat, J_shl, J_shr, V_ite, true_or, or_true, nz_j, J_div, J_rem, Option.bind_some, Option.toList_some, Option.toList_none, List.cons_append, List.nil_append, Jl21, Jl23, Jl25, Jl74, Jl83, Jl288, Jl324, Jl1800, Jlm8]
                repeat (first | rw [if_neg (by omega)] | rw [if_pos (by omega)])
              · simp (disch := omega) only [b264_112, b264_118, b264_124, b264_135, b264_141, b264_154, b264_160, b264_163, b264_165, gO_M hM, gR_M0 hM, gR_M1 hM, gR_M11 hM, gR_M13 hM, gR_M14 hM, gR_M15 hM, gR_M16 hM, gR_M17 hM, gR_M22 hM, gR_M32 hM, gR_M33 hM, gR_M34 hM, gR_M35 hM, gR_M36 hM, gR_M37 hM, gR_M38 hM, gR_M41 hM, gR_M42 hM, gR_M43 hM, gR_M45 hM, gR_M46 hM, gR_M47 hM, gR_M50 hM, gR_M51 hM, gR_M52 hM, al_M1 hM, al_M2 hM, al_M3 hM, al_M4 hM, al_M5 hM, al_M6 hM, al_M7 hM, al_M8 hM, al_M9 hM, al_M10 hM, al_M11 hM, al_M12 hM, al_M13 hM, al_M14 hM, al_M15 hM, al_M16 hM, al_M17 hM, al_M18 hM, al_M19 hM, al_M20 hM, al_M21 hM, al_M22 hM, al_M23 hM, al_M24 hM, al_M25 hM, rd_M1 hM, rd_M2 hM, rd_M3 hM, rd_M4 hM, rd_M5 hM, rd_M6 hM, rd_M7 hM, rd_M8 hM, rd_M9 hM, rd_M10 hM, rd_M11 hM, rd_M12 hM, rd_M13 hM, rd_M14 hM, rd_M15 hM, rd_M16 hM, rd_M17 hM, rd_M18 hM, rd_M19 hM, rd_M20 hM, rd_M21 hM, rd_M22 hM, rd_M23 hM, rd_M24 hM, rd_M25 hM, e4, er, hda, cl1, le_sp, b2i_t, Bool.true_eq_false, Jl0, Jl1, Jl2, Jl3, Jl4, Jl5, Jl6, Jl7, Jl8, Jl9, Jl10, Jl11, Jl12, Jl13, Jl14, Jl15, Jl16, Jl17, Jl18, Jl19, Jl20, Jl22, Jl24, Jl28, Jl30, Jl31, Jl32, Jl35, Jl36, Jl37, Jl38, Jl39, Jl40, Jl48, Jl57, Jl59, Jl60, Jl61, Jl63, Jl64, Jl68, Jl69, Jl96, Jl97, Jl98, Jl99, Jl100, Jl122, Jl149, Jl150, Jl165, Jl255, Jl511, Jl512, Jl600, Jl610, Jl940, Jl968, Jl999, Jl1134, Jl1152, Jl2048, Jl4608, Jl9999, Jl99999, Jl100000, Jl147456, Jl12345, Jl1103515245, Jl100000000, Jlm1, Jlm2, J_add, J_sub, J_mul, J_lt, J_le, J_eq, J_ite, J_cl, ri_j, wi_j, b2i_z, b2i_o, b2i_zo, Int.cast_ofNat_Int, Int.natCast_zero, Int.natCast_one, if_true, if_false, ite_self, Int.le_refl, J_bit, J_or, J_neg, J_oN, Int.reduceEq, Int.reduceLT, Int.reduceLE, Int.reduceNeg, Int.reduceAdd, Int.reduceSub, Int.reduceMul, Int.reduceToNat, J_shl, J_shr, V_ite, true_or, or_true, nz_j, J_div, J_rem, Option.bind_some, Option.toList_some, Option.toList_none, List.cons_append, List.nil_append, Jl21, Jl23, Jl25, Jl74, Jl83, Jl288, Jl324, Jl1800, Jlm8]
                repeat (first | rw [if_neg (by omega)] | rw [if_pos (by omega)])
            · unfold RI at *
              rw [fr.2 48 (by decide), fr.1 22 (by decide) (by decide)]
              exact a4) (by omega) M2 ⟨hA0, by rw [c1 1 (by decide) (by decide)]; exact m1.1, by rw [c1 2 (by decide) (by decide)]; exact m1.2⟩
      refine ⟨M3, ?_, n1, n2⟩
      have e86 : ex PG E lo d 264 86 [some (.ref m), some (.int (J (x))), some (.int (J (y))), some (.int (J (z))), some (.int (J (b2i b))), some (.int (J ((p10 (rhQ S (S 0 3)))))), some (.int (J ((S 0 3)))), none, none] [] (mj μ (sB I m 26 M2)) = ex PG E lo d 264 105 [some (.ref m), some (.int (J (x))), some (.int (J (y))), some (.int (J (z))), some (.int (J (b2i b))), some (.int (J ((p10 (rhQ S (S 0 3)))))), some (.int (J ((sdW S 0)))), some (.int (J ((if b = true then sdL S gg 0 else -1)))), some (.int (J (0)))] [] (mj μ (sB I m 26 M2)) := by
        rw [show sdW S 0 = 0 from rfl, show sdL S gg 0 = -1 from rfl]
        simp (disch := omega) only [b264_86, b264_96, gO_M hM, gR_M0 hM, gR_M1 hM, gR_M11 hM, gR_M13 hM, gR_M14 hM, gR_M15 hM, gR_M16 hM, gR_M17 hM, gR_M22 hM, gR_M32 hM, gR_M33 hM, gR_M34 hM, gR_M35 hM, gR_M36 hM, gR_M37 hM, gR_M38 hM, gR_M41 hM, gR_M42 hM, gR_M43 hM, gR_M45 hM, gR_M46 hM, gR_M47 hM, gR_M50 hM, gR_M51 hM, gR_M52 hM, al_M1 hM, al_M2 hM, al_M3 hM, al_M4 hM, al_M5 hM, al_M6 hM, al_M7 hM, al_M8 hM, al_M9 hM, al_M10 hM, al_M11 hM, al_M12 hM, al_M13 hM, al_M14 hM, al_M15 hM, al_M16 hM, al_M17 hM, al_M18 hM, al_M19 hM, al_M20 hM, al_M21 hM, al_M22 hM, al_M23 hM, al_M24 hM, al_M25 hM, rd_M1 hM, rd_M2 hM, rd_M3 hM, rd_M4 hM, rd_M5 hM, rd_M6 hM, rd_M7 hM, rd_M8 hM, rd_M9 hM, rd_M10 hM, rd_M11 hM, rd_M12 hM, rd_M13 hM, rd_M14 hM, rd_M15 hM, rd_M16 hM, rd_M17 hM, rd_M18 hM, rd_M19 hM, rd_M20 hM, rd_M21 hM, rd_M22 hM, rd_M23 hM, rd_M24 hM, rd_M25 hM, sB_0, sB_c, u3_sB0, u3_sB, u3_s, u3_n, Nat.reduceLT, c3, Jl0, Jl1, Jl2, Jl3, Jl4, Jl5, Jl6, Jl7, Jl8, Jl9, Jl10, Jl11, Jl12, Jl13, Jl14, Jl15, Jl16, Jl17, Jl18, Jl19, Jl20, Jl22, Jl24, Jl28, Jl30, Jl31, Jl32, Jl35, Jl36, Jl37, Jl38, Jl39, Jl40, Jl48, Jl57, Jl59, Jl60, Jl61, Jl63, Jl64, Jl68, Jl69, Jl96, Jl97, Jl98, Jl99, Jl100, Jl122, Jl149, Jl150, Jl165, Jl255, Jl511, Jl512, Jl600, Jl610, Jl940, Jl968, Jl999, Jl1134, Jl1152, Jl2048, Jl4608, Jl9999, Jl99999, Jl100000, Jl147456, Jl12345, Jl1103515245, Jl100000000, Jlm1, Jlm2, J_add, J_sub, J_mul, J_lt, J_le, J_eq, J_ite, J_cl, ri_j, wi_j, b2i_z, b2i_o, b2i_zo, Int.cast_ofNat_Int, Int.natCast_zero, Int.natCast_one, if_true, if_false, ite_self, Int.le_refl, J_bit, J_or, J_neg, J_oN, Int.reduceEq, Int.reduceLT, Int.reduceLE, Int.reduceNeg, Int.reduceAdd, Int.reduceSub, Int.reduceMul, Int.reduceToNat, J_shl, J_shr, V_ite, true_or, or_true, nz_j, J_div, J_rem, Option.bind_some, Option.toList_some, Option.toList_none, List.cons_append, List.nil_append, Jl21, Jl23, Jl25, Jl74, Jl83, Jl288, Jl324, Jl1800, Jlm8]
        repeat (first | rw [if_neg (by omega)] | rw [if_pos (by omega)])
      rw [e86, e3, b264_105]
      cases b <;> simp (disch := omega) only [b264_171, b264_176, b264_181, b264_183, Bool.true_eq_false, Bool.false_eq_true, Jl0, Jl1, Jl2, Jl3, Jl4, Jl5, Jl6, Jl7, Jl8, Jl9, Jl10, Jl11, Jl12, Jl13, Jl14, Jl15, Jl16, Jl17, Jl18, Jl19, Jl20, Jl22, Jl24, Jl28, Jl30, Jl31, Jl32, Jl35, Jl36, Jl37, Jl38, Jl39, Jl40, Jl48, Jl57, Jl59, Jl60, Jl61, Jl63, Jl64, Jl68, Jl69, Jl96, Jl97, Jl98, Jl99, Jl100, Jl122, Jl149, Jl150, Jl165, Jl255, Jl511, Jl512, Jl600, Jl610, Jl940, Jl968, Jl999, Jl1134, Jl1152, Jl2048, Jl4608, Jl9999, Jl99999, Jl100000, Jl147456, Jl12345, Jl1103515245, Jl100000000, Jlm1, Jlm2, J_add, J_sub, J_mul, J_lt, J_le, J_eq, J_ite, J_cl, ri_j, wi_j, b2i_z, b2i_o, b2i_zo, Int.cast_ofNat_Int, Int.natCast_zero, Int.natCast_one, if_true, if_false, ite_self, Int.le_refl, J_bit, J_or, J_neg, J_oN, Int.reduceEq, Int.reduceLT, Int.reduceLE, Int.reduceNeg, Int.reduceAdd, Int.reduceSub, Int.reduceMul, Int.reduceToNat, J_shl, J_shr, V_ite, true_or, or_true, nz_j, J_div, J_rem, Option.bind_some, Option.toList_some, Option.toList_none, List.cons_append, List.nil_append, Jl21, Jl23, Jl25, Jl74, Jl83, Jl288, Jl324, Jl1800, Jlm8]
    · rw [if_neg (fun q => c5 q.2)]
      refine ⟨M2, ?_, by rw [c1 1 (by decide) (by decide)]; exact m1.1, by rw [c1 2 (by decide) (by decide)]; exact m1.2⟩
      simp (disch := omega) only [b264_86, b264_94, gO_M hM, gR_M0 hM, gR_M1 hM, gR_M11 hM, gR_M13 hM, gR_M14 hM, gR_M15 hM, gR_M16 hM, gR_M17 hM, gR_M22 hM, gR_M32 hM, gR_M33 hM, gR_M34 hM, gR_M35 hM, gR_M36 hM, gR_M37 hM, gR_M38 hM, gR_M41 hM, gR_M42 hM, gR_M43 hM, gR_M45 hM, gR_M46 hM, gR_M47 hM, gR_M50 hM, gR_M51 hM, gR_M52 hM, al_M1 hM, al_M2 hM, al_M3 hM, al_M4 hM, al_M5 hM, al_M6 hM, al_M7 hM, al_M8 hM, al_M9 hM, al_M10 hM, al_M11 hM, al_M12 hM, al_M13 hM, al_M14 hM, al_M15 hM, al_M16 hM, al_M17 hM, al_M18 hM, al_M19 hM, al_M20 hM, al_M21 hM, al_M22 hM, al_M23 hM, al_M24 hM, al_M25 hM, rd_M1 hM, rd_M2 hM, rd_M3 hM, rd_M4 hM, rd_M5 hM, rd_M6 hM, rd_M7 hM, rd_M8 hM, rd_M9 hM, rd_M10 hM, rd_M11 hM, rd_M12 hM, rd_M13 hM, rd_M14 hM, rd_M15 hM, rd_M16 hM, rd_M17 hM, rd_M18 hM, rd_M19 hM, rd_M20 hM, rd_M21 hM, rd_M22 hM, rd_M23 hM, rd_M24 hM, rd_M25 hM, sB_0, sB_c, u3_sB0, u3_sB, u3_s, u3_n, Nat.reduceLT, c3, Jl0, Jl1, Jl2, Jl3, Jl4, Jl5, Jl6, Jl7, Jl8, Jl9, Jl10, Jl11, Jl12, Jl13, Jl14, Jl15, Jl16, Jl17, Jl18, Jl19, Jl20, Jl22, Jl24, Jl28, Jl30, Jl31, Jl32, Jl35, Jl36, Jl37, Jl38, Jl39, Jl40, Jl48, Jl57, Jl59, Jl60, Jl61, Jl63, Jl64, Jl68, Jl69, Jl96, Jl97, Jl98, Jl99, Jl100, Jl122, Jl149, Jl150, Jl165, Jl255, Jl511, Jl512, Jl600, Jl610, Jl940, Jl968, Jl999, Jl1134, Jl1152, Jl2048, Jl4608, Jl9999, Jl99999, Jl100000, Jl147456, Jl12345, Jl1103515245, Jl100000000, Jlm1, Jlm2, J_add, J_sub, J_mul, J_lt, J_le, J_eq, J_ite, J_cl, ri_j, wi_j, b2i_z, b2i_o, b2i_zo, Int.cast_ofNat_Int, Int.natCast_zero, Int.natCast_one, if_true, if_false, ite_self, Int.le_refl, J_bit, J_or, J_neg, J_oN, Int.reduceEq, Int.reduceLT, Int.reduceLE, Int.reduceNeg, Int.reduceAdd, Int.reduceSub, Int.reduceMul, Int.reduceToNat, J_shl, J_shr, V_ite, true_or, or_true, nz_j, J_div, J_rem, Option.bind_some, Option.toList_some, Option.toList_none, List.cons_append, List.nil_append, Jl21, Jl23, Jl25, Jl74, Jl83, Jl288, Jl324, Jl1800, Jlm8]
      repeat (first | rw [if_neg (by omega)] | rw [if_pos (by omega)])
end REF
