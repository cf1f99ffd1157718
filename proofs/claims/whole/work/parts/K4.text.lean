/-! text() OF THE REFERENCE, whole -/
def TxO (μ : rM) (I : Nat → Int → Int) (m : Nat) (M : Nat → Int → Int) (s a : Int) (D : (Nat → Int → Int) × Int × Int) (r : Option rRs) : Prop := ∃ v M', r = some (some (.int (J v)), mj μ (sB I m 26 M')) ∧ M' 2 = M 2 ∧ ((¬ txOK M s a ∧ v = -2 ∧ M' 1 = tx5 M 0 (-1)) ∨ (txOK M s a ∧ (txR s (tpB M) (M 1 4) D).1.1 ≠ 0 ∧ v = -1 ∧ M' 1 = tx5 M (txR s (tpB M) (M 1 4) D).1.1 (txR s (tpB M) (M 1 4) D).1.2) ∨ (txOK M s a ∧ (txR s (tpB M) (M 1 4) D).1.1 = 0 ∧ v = txK M s a ∧ (∀ j, (j < plQ s v ∨ plQ s v + szQ s ≤ j) → M' 1 j = if j = s ∧ a = -1 then M 1 s + 1 else tx5 M 0 (-1) j) ∧ ∃ X, CT s X (txR s (tpB M) (M 1 4) D).2 ∧ ∀ i, 0 ≤ i → i < szQ s → M' 1 (plQ s v + i) = X 3 i))
theorem clQ_v {d : (Nat → Int → Int) × Int × Int} : clQ d = 0 ∨ clQ d = 4 ∨ clQ d = 5 := by
  unfold clQ
  split
  · split
    · exact Or.inl rfl
    · exact Or.inr (Or.inr rfl)
  · exact Or.inr (Or.inl rfl)
section REF
variable {E : (Nat → Value) × (Nat → Nat)} {lo d m : Nat} {μ : rM} {I M S : Nat → Int → Int} {s a n k x : Int} {B : Int → Int} {D : (Nat → Int → Int) × Int × Int}
theorem adv_st {M2 : Nat → Int → Int} (h2 : M2 0 2 = n) (hn : 0 ≤ n ∧ n ≤ 600) (h3 : M2 0 3 = 0) (hb : ∀ j, 0 ≤ j → tpB M2 j = B j) (ht : ∀ j, 0 ≤ j → j < 600 → 0 ≤ B j ∧ B j < 256) (h6 : i32 (M2 0 6) ∧ i32 (M2 0 7)) (h8 : M2 0 8 = 0) (h9 : M2 0 9 = -1 ∧ M2 0 10 = -1) (h5 : M2 1 5 = 0 ∧ M2 1 6 = -1) : OKs B n (advM M2) (tW B n 0) (0, -1) := by
  have ha := adv_at (B := B) (n := n) (p := 0) (M := M2) h2 hb h3 (by omega)
  have e : advM (rdM M2 0 0 0 (M2 0 6) (M2 0 7)) = advM M2 := by
    rw [advM_eq (M := rdM M2 0 0 0 (M2 0 6) (M2 0 7)) (B := tpB M2) (n := M2 0 2) (w := tW (tpB M2) (M2 0 2) (M2 0 3)) (by unfold tpB; rw [rdM_c (by decide)]) rdM_g2.symm (by rw [rdM_g3, h3]), advM_eq (M := M2) (B := tpB M2) (n := M2 0 2) (w := tW (tpB M2) (M2 0 2) (M2 0 3)) rfl rfl rfl, rdM_g6, rdM_g7, rdM_r]
  have hJ : RJn (rdM M2 0 0 0 (M2 0 6) (M2 0 7)) := by
    refine ⟨⟨⟨by rw [rdM_g2, h2]; exact hn, by rw [rdM_g3]; omega⟩, fun j a b => ?_, Or.inl (by rw [rdM_g8 (by omega)]; exact h8), by rw [rdM_g4]; omega, by rw [rdM_g5]; omega, by rw [rdM_g6, rdM_g7]; exact h6, by rw [rdM_c (by decide), h5.1]; unfold i32; omega, by rw [rdM_c (by decide), h5.2]; unfold i32; omega⟩, by rw [rdM_g8 (by omega), h9.1]; unfold i32; omega, by rw [rdM_g8 (by omega), h9.2]; unfold i32; omega⟩
    have := hb j a
    unfold tpB at this ⊢
    rw [rdM_c (by decide), this]
    exact ht j a b
  refine ⟨by rw [← e]; exact RJn_adv hJ, ha, by rw [advM_f.1 8 (by omega)]; exact h8, by rw [advM_f.2.1 1 (by decide)]; exact h5.1, by rw [advM_f.2.1 1 (by decide)]; exact h5.2, fun z => absurd rfl z⟩
theorem Far_0 : Far 0 (-1) := ⟨by omega, fun h hh => ⟨fun _ => by omega, fun _ => p2_0 h⟩⟩
/-- the first state of the reading -/
theorem cl_CT (hs4 : 0 ≤ s ∧ s < 4) (hD : Cl0 s D) (h3 : ∀ j, 0 ≤ j → j < 165 → M 3 j = clR s j) (h9 : M 0 9 = -1 ∧ M 0 10 = -1) : CT s M D ∧ SF s M := by
  have hs' : s = 0 ∨ s = 1 ∨ s = 2 ∨ s = 3 := by omega
  have e := fun j a b => h3 j a b
  rcases hs' with rfl | rfl | rfl | rfl
  · obtain ⟨⟨a1, a2⟩, ⟨b1, b2, b3, b4⟩, c, g⟩ := hD.1 rfl
    have z0 : M 3 0 = 4 := e 0 (by omega) (by omega)
    have z1 : M 3 1 = 0 := e 1 (by omega) (by omega)
    have z2 : M 3 2 = 0 := e 2 (by omega) (by omega)
    have z3 : M 3 3 = 0 := e 3 (by omega) (by omega)
    refine ⟨⟨fun _ => ⟨⟨by omega, by omega, by omega, by omega⟩, fun i a b => ?_, fun k a b => by omega, fun k a b => ?_, fun v a b => by omega, by rw [a1, h9.1]; exact Far_0, by rw [a2, h9.2]; exact Far_0⟩, fun z => absurd z (by decide), fun z => absurd z (by decide), fun z => absurd z (by decide)⟩, fun _ => ⟨by omega, by omega, by omega⟩, fun z => absurd z (by decide), fun z => absurd z (by decide), fun z => absurd z (by decide)⟩
    · rw [e (4 + i) (by omega) (by omega), c i a b]
      unfold clR
      rw [if_pos rfl, if_neg (by omega), if_neg (by omega)]
    · obtain ⟨g1, g2⟩ := g k a b
      rw [e (68 + 9 * k + 7) (by omega) (by omega), e (68 + 9 * k + 8) (by omega) (by omega), g1, g2]
      unfold clR
      rw [if_pos rfl, if_neg (by omega), if_pos (by omega), if_pos rfl, if_neg (by omega), if_pos (by omega)]
      exact ⟨rfl, rfl⟩
  · obtain ⟨⟨b1, b2, b3, b4, b5⟩, c⟩ := hD.2.1 rfl
    have z0 : M 3 0 = 0 := e 0 (by omega) (by omega)
    have z1 : M 3 1 = 999 := e 1 (by omega) (by omega)
    have z2 : M 3 2 = 0 := e 2 (by omega) (by omega)
    have z3 : M 3 3 = 0 := e 3 (by omega) (by omega)
    have z4 : M 3 4 = 0 := e 4 (by omega) (by omega)
    refine ⟨⟨fun z => absurd z (by decide), fun _ => ⟨by omega, fun w a b => ?_⟩, fun z => absurd z (by decide), fun z => absurd z (by decide)⟩, fun z => absurd z (by decide), fun _ => ⟨by omega, by omega⟩, fun z => absurd z (by decide), fun z => absurd z (by decide)⟩
    rw [e (5 + w) (by omega) (by omega), c w a b]
    unfold clR
    rw [if_neg (by omega), if_pos rfl, if_neg (by omega), if_pos (by omega)]
  · obtain ⟨b1, b2, b3⟩ := hD.2.2.1 rfl
    have z0 : M 3 0 = 0 := e 0 (by omega) (by omega)
    have z1 : M 3 1 = 0 := e 1 (by omega) (by omega)
    have z2 : M 3 2 = 0 := e 2 (by omega) (by omega)
    exact ⟨⟨fun z => absurd z (by decide), fun z => absurd z (by decide), fun _ => ⟨by omega, fun i a b => by omega⟩, fun z => absurd z (by decide)⟩, fun z => absurd z (by decide), fun z => absurd z (by decide), fun _ => ⟨by omega, by omega⟩, fun z => absurd z (by decide)⟩
  · have b1 := hD.2.2.2 rfl
    have z0 : M 3 0 = 0 := e 0 (by omega) (by omega)
    exact ⟨⟨fun z => absurd z (by decide), fun z => absurd z (by decide), fun z => absurd z (by decide), fun _ => ⟨by omega, fun i a b => by omega⟩⟩, fun z => absurd z (by decide), fun z => absurd z (by decide), fun z => absurd z (by decide), fun _ => ⟨by omega, by omega⟩⟩
/-- the text is good: it is laid into its place -/
theorem tx_lay (hd : 1 ≤ d) (hM : ShM μ m) (hl : lo ≤ m) (hs4 : 0 ≤ s ∧ s < 4) (ha : i32 a) (hc : 0 ≤ M 1 s ∧ M 1 s ≤ 2) (hok : if a = -1 then M 1 s < 2 else 0 ≤ a ∧ a < M 1 s) (x3 : Int) : ex PG E lo d 199 214 [some (.ref m), some (.int (J (s))), some (.int (J (a))), some (.int (J (x3))), none, none] [] (mj μ (sB I m 26 M)) = some (some (.int (J (txK M s a))), mj μ (sB I m 26 (lyM (if a = -1 then u3 M 1 s (M 1 s + 1) else M) (plQ s (txK M s a)) (szQ s)))) := by
  unfold i32 at ha
  unfold txK
  by_cases c : a = -1
  · rw [if_pos c] at hok
    have L := ly_lp (E := E) (lo := lo) (I := I) (M := u3 M 1 s (M 1 s + 1)) (a := a) hd hM hl hs4 (k := M 1 s) (by omega) x3
    rw [if_pos c, if_pos c, ← L]
    simp (disch := omega) only [b199_214, b199_219, b199_229, b199_236, gO_M hM, gR_M0 hM, gR_M1 hM, gR_M11 hM, gR_M13 hM, gR_M14 hM, gR_M15 hM, gR_M16 hM, gR_M17 hM, gR_M22 hM, gR_M32 hM, gR_M33 hM, gR_M34 hM, gR_M35 hM, gR_M36 hM, gR_M37 hM, gR_M38 hM, gR_M41 hM, gR_M42 hM, gR_M43 hM, gR_M45 hM, gR_M46 hM, gR_M47 hM, gR_M50 hM, gR_M51 hM, gR_M52 hM, al_M1 hM, al_M2 hM, al_M3 hM, al_M4 hM, al_M5 hM, al_M6 hM, al_M7 hM, al_M8 hM, al_M9 hM, al_M10 hM, al_M11 hM, al_M12 hM, al_M13 hM, al_M14 hM, al_M15 hM, al_M16 hM, al_M17 hM, al_M18 hM, al_M19 hM, al_M20 hM, al_M21 hM, al_M22 hM, al_M23 hM, al_M24 hM, al_M25 hM, rd_M1 hM, rd_M2 hM, rd_M3 hM, rd_M4 hM, rd_M5 hM, rd_M6 hM, rd_M7 hM, rd_M8 hM, rd_M9 hM, rd_M10 hM, rd_M11 hM, rd_M12 hM, rd_M13 hM, rd_M14 hM, rd_M15 hM, rd_M16 hM, rd_M17 hM, rd_M18 hM, rd_M19 hM, rd_M20 hM, rd_M21 hM, rd_M22 hM, rd_M23 hM, rd_M24 hM, rd_M25 hM, gP_M hM hl, wr_M1 hM hl, wr_M2 hM hl, wr_M3 hM hl, wr_M4 hM hl, wr_M5 hM hl, wr_M6 hM hl, wr_M7 hM hl, wr_M8 hM hl, wr_M9 hM hl, wr_M10 hM hl, wr_M11 hM hl, wr_M12 hM hl, wr_M13 hM hl, wr_M14 hM hl, wr_M15 hM hl, wr_M16 hM hl, wr_M17 hM hl, wr_M18 hM hl, wr_M19 hM hl, wr_M20 hM hl, wr_M21 hM hl, wr_M22 hM hl, wr_M23 hM hl, wr_M24 hM hl, wr_M25 hM hl, sB_0, sB_c, u3_sB0, u3_sB, u3_s, u3_n, Nat.reduceLT, c, Jl0, Jl1, Jl2, Jl3, Jl4, Jl5, Jl6, Jl7, Jl8, Jl9, Jl10, Jl11, Jl12, Jl13, Jl14, Jl15, Jl16, Jl17, Jl18, Jl19, Jl20, Jl22, Jl24, Jl28, Jl30, Jl31, Jl32, Jl35, Jl36, Jl37, Jl38, Jl39, Jl40, Jl48, Jl57, Jl59, Jl60, Jl61, Jl63, Jl64, Jl68, Jl69, Jl96, Jl97, Jl98, Jl99, Jl100, Jl122, Jl149, Jl150, Jl165, Jl255, Jl511, Jl512, Jl600, Jl610, Jl940, Jl968, Jl999, Jl1134, Jl1152, Jl2048, Jl4608, Jl9999, Jl99999, Jl100000, Jl147456, Jl12345, Jl1103515245, Jl100000000, Jlm1, Jlm2, J_add, J_sub, J_mul, J_lt, J_le, J_eq, J_ite, J_cl, ri_j, wi_j, b2i_z, b2i_o, b2i_zo, Int.cast_ofNat_Int, Int.natCast_zero, Int.natCast_one, if_true, if_false, ite_self, Int.le_refl, J_bit, J_or, J_neg, J_oN, Int.reduceEq, Int.reduceLT, Int.reduceLE, Int.reduceNeg, Int.reduceAdd, Int.reduceSub, Int.reduceMul, Int.reduceToNat, J_shl, J_shr, V_ite, true_or, or_true, nz_j, J_div, J_rem, Option.bind_some, Option.toList_some, Option.toList_none, List.cons_append, List.nil_append, Jl21, Jl23, Jl25, Jl74, Jl83, Jl288, Jl324, Jl1800, Jlm8]
  · rw [if_neg c] at hok
    have L := ly_lp (E := E) (lo := lo) (I := I) (M := M) (a := a) hd hM hl hs4 (k := a) (by omega) x3
    rw [if_neg c, if_neg c, ← L]
    simp (disch := omega) only [b199_214, b199_228, b199_229, gO_M hM, gR_M0 hM, gR_M1 hM, gR_M11 hM, gR_M13 hM, gR_M14 hM, gR_M15 hM, gR_M16 hM, gR_M17 hM, gR_M22 hM, gR_M32 hM, gR_M33 hM, gR_M34 hM, gR_M35 hM, gR_M36 hM, gR_M37 hM, gR_M38 hM, gR_M41 hM, gR_M42 hM, gR_M43 hM, gR_M45 hM, gR_M46 hM, gR_M47 hM, gR_M50 hM, gR_M51 hM, gR_M52 hM, al_M1 hM, al_M2 hM, al_M3 hM, al_M4 hM, al_M5 hM, al_M6 hM, al_M7 hM, al_M8 hM, al_M9 hM, al_M10 hM, al_M11 hM, al_M12 hM, al_M13 hM, al_M14 hM, al_M15 hM, al_M16 hM, al_M17 hM, al_M18 hM, al_M19 hM, al_M20 hM, al_M21 hM, al_M22 hM, al_M23 hM, al_M24 hM, al_M25 hM, rd_M1 hM, rd_M2 hM, rd_M3 hM, rd_M4 hM, rd_M5 hM, rd_M6 hM, rd_M7 hM, rd_M8 hM, rd_M9 hM, rd_M10 hM, rd_M11 hM, rd_M12 hM, rd_M13 hM, rd_M14 hM, rd_M15 hM, rd_M16 hM, rd_M17 hM, rd_M18 hM, rd_M19 hM, rd_M20 hM, rd_M21 hM, rd_M22 hM, rd_M23 hM, rd_M24 hM, rd_M25 hM, gP_M hM hl, wr_M1 hM hl, wr_M2 hM hl, wr_M3 hM hl, wr_M4 hM hl, wr_M5 hM hl, wr_M6 hM hl, wr_M7 hM hl, wr_M8 hM hl, wr_M9 hM hl, wr_M10 hM hl, wr_M11 hM hl, wr_M12 hM hl, wr_M13 hM hl, wr_M14 hM hl, wr_M15 hM hl, wr_M16 hM hl, wr_M17 hM hl, wr_M18 hM hl, wr_M19 hM hl, wr_M20 hM hl, wr_M21 hM hl, wr_M22 hM hl, wr_M23 hM hl, wr_M24 hM hl, wr_M25 hM hl, sB_0, sB_c, u3_sB0, u3_sB, u3_s, u3_n, Nat.reduceLT, c, Jl0, Jl1, Jl2, Jl3, Jl4, Jl5, Jl6, Jl7, Jl8, Jl9, Jl10, Jl11, Jl12, Jl13, Jl14, Jl15, Jl16, Jl17, Jl18, Jl19, Jl20, Jl22, Jl24, Jl28, Jl30, Jl31, Jl32, Jl35, Jl36, Jl37, Jl38, Jl39, Jl40, Jl48, Jl57, Jl59, Jl60, Jl61, Jl63, Jl64, Jl68, Jl69, Jl96, Jl97, Jl98, Jl99, Jl100, Jl122, Jl149, Jl150, Jl165, Jl255, Jl511, Jl512, Jl600, Jl610, Jl940, Jl968, Jl999, Jl1134, Jl1152, Jl2048, Jl4608, Jl9999, Jl99999, Jl100000, Jl147456, Jl12345, Jl1103515245, Jl100000000, Jlm1, Jlm2, J_add, J_sub, J_mul, J_lt, J_le, J_eq, J_ite, J_cl, ri_j, wi_j, b2i_z, b2i_o, b2i_zo, Int.cast_ofNat_Int, Int.natCast_zero, Int.natCast_one, if_true, if_false, ite_self, Int.le_refl, J_bit, J_or, J_neg, J_oN, Int.reduceEq, Int.reduceLT, Int.reduceLE, Int.reduceNeg, Int.reduceAdd, Int.reduceSub, Int.reduceMul, Int.reduceToNat, J_shl, J_shr, V_ite, true_or, or_true, nz_j, J_div, J_rem, Option.bind_some, Option.toList_some, Option.toList_none, List.cons_append, List.nil_append, Jl21, Jl23, Jl25, Jl74, Jl83, Jl288, Jl324, Jl1800, Jlm8]
    repeat (first | rw [if_neg (by omega)] | rw [if_pos (by omega)])
theorem q_text (hd : 13 ≤ d) (hM : ShM μ m) (hl : lo ≤ m) (hc : ∀ s, 0 ≤ s → s < 4 → 0 ≤ M 1 s ∧ M 1 s ≤ 2) (hn : 0 ≤ M 1 4 ∧ M 1 4 ≤ 600) (ht : ∀ j, 0 ≤ j → j < 600 → 0 ≤ tpB M j ∧ tpB M j < 256) (hx : i32 s ∧ i32 a) (hD : Cl0 s D) : TxO μ I m M s a D (cl E lo d 199 [.ref m, .int (J (s)), .int (J (a))] (mj μ (sB I m 26 M))) := by
  obtain ⟨d, rfl⟩ : ∃ e, d = e + 1 := ⟨d - 1, by omega⟩
  have hx' := hx
  unfold i32 at hx'
  rw [← nM_m]
  obtain ⟨N, hN⟩ : ∃ N, N = nM M := ⟨_, rfl⟩
  rw [← hN]
  have N1 : ∀ c, c ≠ 0 → N c = M c := fun c hc => by
    funext j
    rw [hN]
    unfold nM
    rw [if_neg (fun z => hc z.1)]
  have N6 : i32 (N 0 6) ∧ i32 (N 0 7) := by
    rw [hN]
    unfold nM
    rw [if_pos ⟨rfl, Or.inl rfl⟩, if_pos ⟨rfl, Or.inr rfl⟩]
    exact ⟨J_i32 _, J_i32 _⟩
  have s0 : cl E lo (d + 1) 199 [.ref m, .int (J s), .int (J a)] (mj μ (sB I m 26 N)) = ex PG E lo d 199 38 [some (.ref m), some (.int (J (s))), some (.int (J (a))), none, none, none] [.int (J ((b2i (decide (0 ≤ s ∧ s ≤ 3)))))] (mj μ (sB I m 26 (tx0 N))) := by
    unfold tx0
    simp (disch := omega) only [b199_0, b199_10, b199_17, b199_24, b199_32, e199, gO_M hM, gR_M0 hM, gR_M1 hM, gR_M11 hM, gR_M13 hM, gR_M14 hM, gR_M15 hM, gR_M16 hM, gR_M17 hM, gR_M22 hM, gR_M32 hM, gR_M33 hM, gR_M34 hM, gR_M35 hM, gR_M36 hM, gR_M37 hM, gR_M38 hM, gR_M41 hM, gR_M42 hM, gR_M43 hM, gR_M45 hM, gR_M46 hM, gR_M47 hM, gR_M50 hM, gR_M51 hM, gR_M52 hM, al_M1 hM, al_M2 hM, al_M3 hM, al_M4 hM, al_M5 hM, al_M6 hM, al_M7 hM, al_M8 hM, al_M9 hM, al_M10 hM, al_M11 hM, al_M12 hM, al_M13 hM, al_M14 hM, al_M15 hM, al_M16 hM, al_M17 hM, al_M18 hM, al_M19 hM, al_M20 hM, al_M21 hM, al_M22 hM, al_M23 hM, al_M24 hM, al_M25 hM, rd_M1 hM, rd_M2 hM, rd_M3 hM, rd_M4 hM, rd_M5 hM, rd_M6 hM, rd_M7 hM, rd_M8 hM, rd_M9 hM, rd_M10 hM, rd_M11 hM, rd_M12 hM, rd_M13 hM, rd_M14 hM, rd_M15 hM, rd_M16 hM, rd_M17 hM, rd_M18 hM, rd_M19 hM, rd_M20 hM, rd_M21 hM, rd_M22 hM, rd_M23 hM, rd_M24 hM, rd_M25 hM, gP_M hM hl, wr_M1 hM hl, wr_M2 hM hl, wr_M3 hM hl, wr_M4 hM hl, wr_M5 hM hl, wr_M6 hM hl, wr_M7 hM hl, wr_M8 hM hl, wr_M9 hM hl, wr_M10 hM hl, wr_M11 hM hl, wr_M12 hM hl, wr_M13 hM hl, wr_M14 hM hl, wr_M15 hM hl, wr_M16 hM hl, wr_M17 hM hl, wr_M18 hM hl, wr_M19 hM hl, wr_M20 hM hl, wr_M21 hM hl, wr_M22 hM hl, wr_M23 hM hl, wr_M24 hM hl, wr_M25 hM hl, sB_0, sB_c, u3_sB0, u3_sB, u3_s, u3_n, Nat.reduceLT, is_sp, Jl0, Jl1, Jl2, Jl3, Jl4, Jl5, Jl6, Jl7, Jl8, Jl9, Jl10, Jl11, Jl12, Jl13, Jl14, Jl15, Jl16, Jl17, Jl18, Jl19, Jl20, Jl22, Jl24, Jl28, Jl30, Jl31, Jl32, Jl35, Jl36, Jl37, Jl38, Jl39, Jl40, Jl48, Jl57, Jl59, Jl60, Jl61, Jl63, Jl64, Jl68, Jl69, Jl96, Jl97, Jl98, Jl99, Jl100, Jl122, Jl149, Jl150, Jl165, Jl255, Jl511, Jl512, Jl600, Jl610, Jl940, Jl968, Jl999, Jl1134, Jl1152, Jl2048, Jl4608, Jl9999, Jl99999, Jl100000, Jl147456, Jl12345, Jl1103515245, Jl100000000, Jlm1, Jlm2, J_add, J_sub, J_mul, J_lt, J_le, J_eq, J_ite, J_cl, ri_j, wi_j, b2i_z, b2i_o, b2i_zo, Int.cast_ofNat_Int, Int.natCast_zero, Int.natCast_one, if_true, if_false, ite_self, Int.le_refl, J_bit, J_or, J_neg, J_oN, Int.reduceEq, Int.reduceLT, Int.reduceLE, Int.reduceNeg, Int.reduceAdd, Int.reduceSub, Int.reduceMul, Int.reduceToNat, J_shl, J_shr, V_ite, true_or, or_true, nz_j, J_div, J_rem, Option.bind_some, Option.toList_some, Option.toList_none, List.cons_append, List.nil_append, Jl21, Jl23, Jl25, Jl74, Jl83, Jl288, Jl324, Jl1800, Jlm8]
  rw [s0]
  have T1 : tx0 N 1 = tx5 M 0 (-1) := by
    rw [tx0_1]
    unfold tx5
    rw [N1 1 (by decide)]
  have T2 : tx0 N 2 = M 2 := by rw [tx0_c (by decide), N1 2 (by decide)]
  have bad : ¬ txOK M s a → ex PG E lo d 199 38 [some (.ref m), some (.int (J (s))), some (.int (J (a))), none, none, none] [.int (J ((b2i (decide (0 ≤ s ∧ s ≤ 3)))))] (mj μ (sB I m 26 (tx0 N))) = some (some (.int (J (-2))), mj μ (sB I m 26 (tx0 N))) := by
    intro hno
    by_cases c : 0 ≤ s ∧ s ≤ 3
    · have T1s : tx0 N 1 s = M 1 s := by
        rw [T1]
        unfold tx5
        rw [if_neg (by omega), if_neg (by omega), if_neg (by omega)]
      have hcs := hc s (by omega) (by omega)
      rw [decide_eq_true c]
      by_cases ca : a = -1
      · have : ¬ M 1 s < 2 := fun z => hno ⟨by omega, by rw [if_pos ca]; exact z⟩
        simp (disch := omega) only [b199_38, b199_41, b199_46, b199_56, b199_68, gO_M hM, gR_M0 hM, gR_M1 hM, gR_M11 hM, gR_M13 hM, gR_M14 hM, gR_M15 hM, gR_M16 hM, gR_M17 hM, gR_M22 hM, gR_M32 hM, gR_M33 hM, gR_M34 hM, gR_M35 hM, gR_M36 hM, gR_M37 hM, gR_M38 hM, gR_M41 hM, gR_M42 hM, gR_M43 hM, gR_M45 hM, gR_M46 hM, gR_M47 hM, gR_M50 hM, gR_M51 hM, gR_M52 hM, al_M1 hM, al_M2 hM, al_M3 hM, al_M4 hM, al_M5 hM, al_M6 hM, al_M7 hM, al_M8 hM, al_M9 hM, al_M10 hM, al_M11 hM, al_M12 hM, al_M13 hM, al_M14 hM, al_M15 hM, al_M16 hM, al_M17 hM, al_M18 hM, al_M19 hM, al_M20 hM, al_M21 hM, al_M22 hM, al_M23 hM, al_M24 hM, al_M25 hM, rd_M1 hM, rd_M2 hM, rd_M3 hM, rd_M4 hM, rd_M5 hM, rd_M6 hM, rd_M7 hM, rd_M8 hM, rd_M9 hM, rd_M10 hM, rd_M11 hM, rd_M12 hM, rd_M13 hM, rd_M14 hM, rd_M15 hM, rd_M16 hM, rd_M17 hM, rd_M18 hM, rd_M19 hM, rd_M20 hM, rd_M21 hM, rd_M22 hM, rd_M23 hM, rd_M24 hM, rd_M25 hM, gP_M hM hl, wr_M1 hM hl, wr_M2 hM hl, wr_M3 hM hl, wr_M4 hM hl, wr_M5 hM hl, wr_M6 hM hl, wr_M7 hM hl, wr_M8 hM hl, wr_M9 hM hl, wr_M10 hM hl, wr_M11 hM hl, wr_M12 hM hl, wr_M13 hM hl, wr_M14 hM hl, wr_M15 hM hl, wr_M16 hM hl, wr_M17 hM hl, wr_M18 hM hl, wr_M19 hM hl, wr_M20 hM hl, wr_M21 hM hl, wr_M22 hM hl, wr_M23 hM hl, wr_M24 hM hl, wr_M25 hM hl, sB_0, sB_c, u3_sB0, u3_sB, u3_s, u3_n, Nat.reduceLT, b2i_t, ca, T1s, Jl0, Jl1, Jl2, Jl3, Jl4, Jl5, Jl6, Jl7, Jl8, Jl9, Jl10, Jl11, Jl12, Jl13, Jl14, Jl15, Jl16, Jl17, Jl18, Jl19, Jl20, Jl22, Jl24, Jl28, Jl30, Jl31, Jl32, Jl35, Jl36, Jl37, Jl38, Jl39, Jl40, Jl48, Jl57, Jl59, Jl60, Jl61, Jl63, Jl64, Jl68, Jl69, Jl96, Jl97, Jl98, Jl99, Jl100, Jl122, Jl149, Jl150, Jl165, Jl255, Jl511, Jl512, Jl600, Jl610, Jl940, Jl968, Jl999, Jl1134, Jl1152, Jl2048, Jl4608, Jl9999, Jl99999, Jl100000, Jl147456, Jl12345, Jl1103515245, Jl100000000, Jlm1, Jlm2, J_add, J_sub, J_mul, J_lt, J_le, J_eq, J_ite, J_cl, ri_j, wi_j, b2i_z, b2i_o, b2i_zo, Int.cast_ofNat_Int, Int.natCast_zero, Int.natCast_one, if_true, if_false, ite_self, Int.le_refl, J_bit, J_or, J_neg, J_oN, Int.reduceEq, Int.reduceLT, Int.reduceLE, Int.reduceNeg, Int.reduceAdd, Int.reduceSub, Int.reduceMul, Int.reduceToNat, J_shl, J_shr, V_ite, true_or, or_true, nz_j, J_div, J_rem, Option.bind_some, Option.toList_some, Option.toList_none, List.cons_append, List.nil_append, Jl21, Jl23, Jl25, Jl74, Jl83, Jl288, Jl324, Jl1800, Jlm8]
        repeat (first | rw [if_neg (by omega)] | rw [if_pos (by omega)])
      · have nn : ¬ (0 ≤ a ∧ a < M 1 s) := fun z => hno ⟨by omega, by rw [if_neg ca]; exact z⟩
        have io := io_sp (E := E) (lo := lo) (d := d) (I := I) (M := tx0 N) (x := a) (y := s) (by omega) hM (by omega) (by rw [T1s]; exact hcs) (by omega)
        rw [T1s, decide_eq_false nn] at io
        simp (disch := omega) only [b199_38, b199_41, b199_59, b199_65, b199_68, gO_M hM, gR_M0 hM, gR_M1 hM, gR_M11 hM, gR_M13 hM, gR_M14 hM, gR_M15 hM, gR_M16 hM, gR_M17 hM, gR_M22 hM, gR_M32 hM, gR_M33 hM, gR_M34 hM, gR_M35 hM, gR_M36 hM, gR_M37 hM, gR_M38 hM, gR_M41 hM, gR_M42 hM, gR_M43 hM, gR_M45 hM, gR_M46 hM, gR_M47 hM, gR_M50 hM, gR_M51 hM, gR_M52 hM, al_M1 hM, al_M2 hM, al_M3 hM, al_M4 hM, al_M5 hM, al_M6 hM, al_M7 hM, al_M8 hM, al_M9 hM, al_M10 hM, al_M11 hM, al_M12 hM, al_M13 hM, al_M14 hM, al_M15 hM, al_M16 hM, al_M17 hM, al_M18 hM, al_M19 hM, al_M20 hM, al_M21 hM, al_M22 hM, al_M23 hM, al_M24 hM, al_M25 hM, rd_M1 hM, rd_M2 hM, rd_M3 hM, rd_M4 hM, rd_M5 hM, rd_M6 hM, rd_M7 hM, rd_M8 hM, rd_M9 hM, rd_M10 hM, rd_M11 hM, rd_M12 hM, rd_M13 hM, rd_M14 hM, rd_M15 hM, rd_M16 hM, rd_M17 hM, rd_M18 hM, rd_M19 hM, rd_M20 hM, rd_M21 hM, rd_M22 hM, rd_M23 hM, rd_M24 hM, rd_M25 hM, gP_M hM hl, wr_M1 hM hl, wr_M2 hM hl, wr_M3 hM hl, wr_M4 hM hl, wr_M5 hM hl, wr_M6 hM hl, wr_M7 hM hl, wr_M8 hM hl, wr_M9 hM hl, wr_M10 hM hl, wr_M11 hM hl, wr_M12 hM hl, wr_M13 hM hl, wr_M14 hM hl, wr_M15 hM hl, wr_M16 hM hl, wr_M17 hM hl, wr_M18 hM hl, wr_M19 hM hl, wr_M20 hM hl, wr_M21 hM hl, wr_M22 hM hl, wr_M23 hM hl, wr_M24 hM hl, wr_M25 hM hl, sB_0, sB_c, u3_sB0, u3_sB, u3_s, u3_n, Nat.reduceLT, b2i_t, ca, io, b2i_f, Jl0, Jl1, Jl2, Jl3, Jl4, Jl5, Jl6, Jl7, Jl8, Jl9, Jl10, Jl11, Jl12, Jl13, Jl14, Jl15, Jl16, Jl17, Jl18, Jl19, Jl20, Jl22, Jl24, Jl28, Jl30, Jl31, Jl32, Jl35, Jl36, Jl37, Jl38, Jl39, Jl40, Jl48, Jl57, Jl59, Jl60, Jl61, Jl63, Jl64, Jl68, Jl69, Jl96, Jl97, Jl98, Jl99, Jl100, Jl122, Jl149, Jl150, Jl165, Jl255, Jl511, Jl512, Jl600, Jl610, Jl940, Jl968, Jl999, Jl1134, Jl1152, Jl2048, Jl4608, Jl9999, Jl99999, Jl100000, Jl147456, Jl12345, Jl1103515245, Jl100000000, Jlm1, Jlm2, J_add, J_sub, J_mul, J_lt, J_le, J_eq, J_ite, J_cl, ri_j, wi_j, b2i_z, b2i_o, b2i_zo, Int.cast_ofNat_Int, Int.natCast_zero, Int.natCast_one, if_true, if_false, ite_self, Int.le_refl, J_bit, J_or, J_neg, J_oN, Int.reduceEq, Int.reduceLT, Int.reduceLE, Int.reduceNeg, Int.reduceAdd, Int.reduceSub, Int.reduceMul, Int.reduceToNat, J_shl, J_shr, V_ite, true_or, or_true, nz_j, J_div, J_rem, Option.bind_some, Option.toList_some, Option.toList_none, List.cons_append, List.nil_append, Jl21, Jl23, Jl25, Jl74, Jl83, Jl288, Jl324, Jl1800, Jlm8]
        repeat (first | rw [if_neg (by omega)] | rw [if_pos (by omega)])
    · rw [decide_eq_false c]
      simp (disch := omega) only [b199_38, b199_68, gO_M hM, gR_M0 hM, gR_M1 hM, gR_M11 hM, gR_M13 hM, gR_M14 hM, gR_M15 hM, gR_M16 hM, gR_M17 hM, gR_M22 hM, gR_M32 hM, gR_M33 hM, gR_M34 hM, gR_M35 hM, gR_M36 hM, gR_M37 hM, gR_M38 hM, gR_M41 hM, gR_M42 hM, gR_M43 hM, gR_M45 hM, gR_M46 hM, gR_M47 hM, gR_M50 hM, gR_M51 hM, gR_M52 hM, al_M1 hM, al_M2 hM, al_M3 hM, al_M4 hM, al_M5 hM, al_M6 hM, al_M7 hM, al_M8 hM, al_M9 hM, al_M10 hM, al_M11 hM, al_M12 hM, al_M13 hM, al_M14 hM, al_M15 hM, al_M16 hM, al_M17 hM, al_M18 hM, al_M19 hM, al_M20 hM, al_M21 hM, al_M22 hM, al_M23 hM, al_M24 hM, al_M25 hM, rd_M1 hM, rd_M2 hM, rd_M3 hM, rd_M4 hM, rd_M5 hM, rd_M6 hM, rd_M7 hM, rd_M8 hM, rd_M9 hM, rd_M10 hM, rd_M11 hM, rd_M12 hM, rd_M13 hM, rd_M14 hM, rd_M15 hM, rd_M16 hM, rd_M17 hM, rd_M18 hM, rd_M19 hM, rd_M20 hM, rd_M21 hM, rd_M22 hM, rd_M23 hM, rd_M24 hM, rd_M25 hM, gP_M hM hl, wr_M1 hM hl, wr_M2 hM hl, wr_M3 hM hl, wr_M4 hM hl, wr_M5 hM hl, wr_M6 hM hl, wr_M7 hM hl, wr_M8 hM hl, wr_M9 hM hl, wr_M10 hM hl, wr_M11 hM hl, wr_M12 hM hl, wr_M13 hM hl, wr_M14 hM hl, wr_M15 hM hl, wr_M16 hM hl, wr_M17 hM hl, wr_M18 hM hl, wr_M19 hM hl, wr_M20 hM hl, wr_M21 hM hl, wr_M22 hM hl, wr_M23 hM hl, wr_M24 hM hl, wr_M25 hM hl, sB_0, sB_c, u3_sB0, u3_sB, u3_s, u3_n, Nat.reduceLT, b2i_f, Jl0, Jl1, Jl2, Jl3, Jl4, Jl5, Jl6, Jl7, Jl8, Jl9, Jl10, Jl11, Jl12, Jl13, Jl14, Jl15, Jl16, Jl17, Jl18, Jl19, Jl20, Jl22, Jl24, Jl28, Jl30, Jl31, Jl32, Jl35, Jl36, Jl37, Jl38, Jl39, Jl40, Jl48, Jl57, Jl59, Jl60, Jl61, Jl63, Jl64, Jl68, Jl69, Jl96, Jl97, Jl98, Jl99, Jl100, Jl122, Jl149, Jl150, Jl165, Jl255, Jl511, Jl512, Jl600, Jl610, Jl940, Jl968, Jl999, Jl1134, Jl1152, Jl2048, Jl4608, Jl9999, Jl99999, Jl100000, Jl147456, Jl12345, Jl1103515245, Jl100000000, Jlm1, Jlm2, J_add, J_sub, J_mul, J_lt, J_le, J_eq, J_ite, J_cl, ri_j, wi_j, b2i_z, b2i_o, b2i_zo, Int.cast_ofNat_Int, Int.natCast_zero, Int.natCast_one, if_true, if_false, ite_self, Int.le_refl, J_bit, J_or, J_neg, J_oN, Int.reduceEq, Int.reduceLT, Int.reduceLE, Int.reduceNeg, Int.reduceAdd, Int.reduceSub, Int.reduceMul, Int.reduceToNat, J_shl, J_shr, V_ite, true_or, or_true, nz_j, J_div, J_rem, Option.bind_some, Option.toList_some, Option.toList_none, List.cons_append, List.nil_append, Jl21, Jl23, Jl25, Jl74, Jl83, Jl288, Jl324, Jl1800, Jlm8]
  by_cases hok : txOK M s a
  · obtain ⟨hs4, hoa⟩ := hok
    have hok : txOK M s a := ⟨hs4, hoa⟩
    have T1s : tx0 N 1 s = M 1 s := by
      rw [T1]
      unfold tx5
      rw [if_neg (by omega), if_neg (by omega), if_neg (by omega)]
    have hcs := hc s (by omega) (by omega)
    have s1 : ex PG E lo d 199 38 [some (.ref m), some (.int (J (s))), some (.int (J (a))), none, none, none] [.int (J ((b2i (decide (0 ≤ s ∧ s ≤ 3)))))] (mj μ (sB I m 26 (tx0 N))) = ex PG E lo d 199 71 [some (.ref m), some (.int (J (s))), some (.int (J (a))), none, none, none] [] (mj μ (sB I m 26 (tx0 N))) := by
      rw [decide_eq_true (show 0 ≤ s ∧ s ≤ 3 by omega)]
      by_cases ca : a = -1
      · rw [if_pos ca] at hoa
        simp (disch := omega) only [b199_38, b199_41, b199_46, gO_M hM, gR_M0 hM, gR_M1 hM, gR_M11 hM, gR_M13 hM, gR_M14 hM, gR_M15 hM, gR_M16 hM, gR_M17 hM, gR_M22 hM, gR_M32 hM, gR_M33 hM, gR_M34 hM, gR_M35 hM, gR_M36 hM, gR_M37 hM, gR_M38 hM, gR_M41 hM, gR_M42 hM, gR_M43 hM, gR_M45 hM, gR_M46 hM, gR_M47 hM, gR_M50 hM, gR_M51 hM, gR_M52 hM, al_M1 hM, al_M2 hM, al_M3 hM, al_M4 hM, al_M5 hM, al_M6 hM, al_M7 hM, al_M8 hM, al_M9 hM, al_M10 hM, al_M11 hM, al_M12 hM, al_M13 hM, al_M14 hM, al_M15 hM, al_M16 hM, al_M17 hM, al_M18 hM, al_M19 hM, al_M20 hM, al_M21 hM, al_M22 hM, al_M23 hM, al_M24 hM, al_M25 hM, rd_M1 hM, rd_M2 hM, rd_M3 hM, rd_M4 hM, rd_M5 hM, rd_M6 hM, rd_M7 hM, rd_M8 hM, rd_M9 hM, rd_M10 hM, rd_M11 hM, rd_M12 hM, rd_M13 hM, rd_M14 hM, rd_M15 hM, rd_M16 hM, rd_M17 hM, rd_M18 hM, rd_M19 hM, rd_M20 hM, rd_M21 hM, rd_M22 hM, rd_M23 hM, rd_M24 hM, rd_M25 hM, gP_M hM hl, wr_M1 hM hl, wr_M2 hM hl, wr_M3 hM hl, wr_M4 hM hl, wr_M5 hM hl, wr_M6 hM hl, wr_M7 hM hl, wr_M8 hM hl, wr_M9 hM hl, wr_M10 hM hl, wr_M11 hM hl, wr_M12 hM hl, wr_M13 hM hl, wr_M14 hM hl, wr_M15 hM hl, wr_M16 hM hl, wr_M17 hM hl, wr_M18 hM hl, wr_M19 hM hl, wr_M20 hM hl, wr_M21 hM hl, wr_M22 hM hl, wr_M23 hM hl, wr_M24 hM hl, wr_M25 hM hl, sB_0, sB_c, u3_sB0, u3_sB, u3_s, u3_n, Nat.reduceLT, b2i_t, ca, T1s, Jl0, Jl1, Jl2, Jl3, Jl4, Jl5, Jl6, Jl7, Jl8, Jl9, Jl10, Jl11, Jl12, Jl13, Jl14, Jl15, Jl16, Jl17, Jl18, Jl19, Jl20, Jl22, Jl24, Jl28, Jl30, Jl31, Jl32, Jl35, Jl36, Jl37, Jl38, Jl39, Jl40, Jl48, Jl57, Jl59, Jl60, Jl61, Jl63, Jl64, Jl68, Jl69, Jl96, Jl97, Jl98, Jl99, Jl100, Jl122, Jl149, Jl150, Jl165, Jl255, Jl511, Jl512, Jl600, Jl610, Jl940, Jl968, Jl999, Jl1134, Jl1152, Jl2048, Jl4608, Jl9999, Jl99999, Jl100000, Jl147456, Jl12345, Jl1103515245, Jl100000000, Jlm1, Jlm2, J_add, J_sub, J_mul, J_lt, J_le, J_eq, J_ite, J_cl, ri_j, wi_j, b2i_z, b2i_o, b2i_zo, Int.cast_ofNat_Int, Int.natCast_zero, Int.natCast_one, if_true, if_false, ite_self, Int.le_refl, J_bit, J_or, J_neg, J_oN, Int.reduceEq, Int.reduceLT, Int.reduceLE, Int.reduceNeg, Int.reduceAdd, Int.reduceSub, Int.reduceMul, Int.reduceToNat, J_shl, J_shr, V_ite, true_or, or_true, nz_j, J_div, J_rem, Option.bind_some, Option.toList_some, Option.toList_none, List.cons_append, List.nil_append, Jl21, Jl23, Jl25, Jl74, Jl83, Jl288, Jl324, Jl1800, Jlm8]
        repeat (first | rw [if_neg (by omega)] | rw [if_pos (by omega)])
      · rw [if_neg ca] at hoa
        have io := io_sp (E := E) (lo := lo) (d := d) (I := I) (M := tx0 N) (x := a) (y := s) (by omega) hM (by omega) (by rw [T1s]; exact hcs) (by omega)
        rw [T1s, decide_eq_true hoa] at io
        simp (disch := omega) only [b199_38, b199_41, b199_59, b199_65, gO_M hM, gR_M0 hM, gR_M1 hM, gR_M11 hM, gR_M13 hM, gR_M14 hM, gR_M15 hM, gR_M16 hM, gR_M17 hM, gR_M22 hM, gR_M32 hM, gR_M33 hM, gR_M34 hM, gR_M35 hM, gR_M36 hM, gR_M37 hM, gR_M38 hM, gR_M41 hM, gR_M42 hM, gR_M43 hM, gR_M45 hM, gR_M46 hM, gR_M47 hM, gR_M50 hM, gR_M51 hM, gR_M52 hM, al_M1 hM, al_M2 hM, al_M3 hM, al_M4 hM, al_M5 hM, al_M6 hM, al_M7 hM, al_M8 hM, al_M9 hM, al_M10 hM, al_M11 hM, al_M12 hM, al_M13 hM, al_M14 hM, al_M15 hM, al_M16 hM, al_M17 hM, al_M18 hM, al_M19 hM, al_M20 hM, al_M21 hM, al_M22 hM, al_M23 hM, al_M24 hM, al_M25 hM, rd_M1 hM, rd_M2 hM, rd_M3 hM, rd_M4 hM, rd_M5 hM, rd_M6 hM, rd_M7 hM, rd_M8 hM, rd_M9 hM, rd_M10 hM, rd_M11 hM, rd_M12 hM, rd_M13 hM, rd_M14 hM, rd_M15 hM, rd_M16 hM, rd_M17 hM, rd_M18 hM, rd_M19 hM, rd_M20 hM, rd_M21 hM, rd_M22 hM, rd_M23 hM, rd_M24 hM, rd_M25 hM, gP_M hM hl, wr_M1 hM hl, wr_M2 hM hl, wr_M3 hM hl, wr_M4 hM hl, wr_M5 hM hl, wr_M6 hM hl, wr_M7 hM hl, wr_M8 hM hl, wr_M9 hM hl, wr_M10 hM hl, wr_M11 hM hl, wr_M12 hM hl, wr_M13 hM hl, wr_M14 hM hl, wr_M15 hM hl, wr_M16 hM hl, wr_M17 hM hl, wr_M18 hM hl, wr_M19 hM hl, wr_M20 hM hl, wr_M21 hM hl, wr_M22 hM hl, wr_M23 hM hl, wr_M24 hM hl, wr_M25 hM hl, sB_0, sB_c, u3_sB0, u3_sB, u3_s, u3_n, Nat.reduceLT, b2i_t, ca, io, Jl0, Jl1, Jl2, Jl3, Jl4, Jl5, Jl6, Jl7, Jl8, Jl9, Jl10, Jl11, Jl12, Jl13, Jl14, Jl15, Jl16, Jl17, Jl18, Jl19, Jl20, Jl22, Jl24, Jl28, Jl30, Jl31, Jl32, Jl35, Jl36, Jl37, Jl38, Jl39, Jl40, Jl48, Jl57, Jl59, Jl60, Jl61, Jl63, Jl64, Jl68, Jl69, Jl96, Jl97, Jl98, Jl99, Jl100, Jl122, Jl149, Jl150, Jl165, Jl255, Jl511, Jl512, Jl600, Jl610, Jl940, Jl968, Jl999, Jl1134, Jl1152, Jl2048, Jl4608, Jl9999, Jl99999, Jl100000, Jl147456, Jl12345, Jl1103515245, Jl100000000, Jlm1, Jlm2, J_add, J_sub, J_mul, J_lt, J_le, J_eq, J_ite, J_cl, ri_j, wi_j, b2i_z, b2i_o, b2i_zo, Int.cast_ofNat_Int, Int.natCast_zero, Int.natCast_one, if_true, if_false, ite_self, Int.le_refl, J_bit, J_or, J_neg, J_oN, Int.reduceEq, Int.reduceLT, Int.reduceLE, Int.reduceNeg, Int.reduceAdd, Int.reduceSub, Int.reduceMul, Int.reduceToNat, J_shl, J_shr, V_ite, true_or, or_true, nz_j, J_div, J_rem, Option.bind_some, Option.toList_some, Option.toList_none, List.cons_append, List.nil_append, Jl21, Jl23, Jl25, Jl74, Jl83, Jl288, Jl324, Jl1800, Jlm8]
        repeat (first | rw [if_neg (by omega)] | rw [if_pos (by omega)])
    have s2 : ex PG E lo d 199 71 [some (.ref m), some (.int (J (s))), some (.int (J (a))), none, none, none] [] (mj μ (sB I m 26 (tx0 N))) = ex PG E lo d 199 91 [some (.ref m), some (.int (J (s))), some (.int (J (a))), none, none, none] [] (mj μ (sB I m 26 (tx1 N))) := by
      unfold tx1
      simp (disch := omega) only [b199_71, b199_76, b199_81, b199_86, gO_M hM, gR_M0 hM, gR_M1 hM, gR_M11 hM, gR_M13 hM, gR_M14 hM, gR_M15 hM, gR_M16 hM, gR_M17 hM, gR_M22 hM, gR_M32 hM, gR_M33 hM, gR_M34 hM, gR_M35 hM, gR_M36 hM, gR_M37 hM, gR_M38 hM, gR_M41 hM, gR_M42 hM, gR_M43 hM, gR_M45 hM, gR_M46 hM, gR_M47 hM, gR_M50 hM, gR_M51 hM, gR_M52 hM, al_M1 hM, al_M2 hM, al_M3 hM, al_M4 hM, al_M5 hM, al_M6 hM, al_M7 hM, al_M8 hM, al_M9 hM, al_M10 hM, al_M11 hM, al_M12 hM, al_M13 hM, al_M14 hM, al_M15 hM, al_M16 hM, al_M17 hM, al_M18 hM, al_M19 hM, al_M20 hM, al_M21 hM, al_M22 hM, al_M23 hM, al_M24 hM, al_M25 hM, rd_M1 hM, rd_M2 hM, rd_M3 hM, rd_M4 hM, rd_M5 hM, rd_M6 hM, rd_M7 hM, rd_M8 hM, rd_M9 hM, rd_M10 hM, rd_M11 hM, rd_M12 hM, rd_M13 hM, rd_M14 hM, rd_M15 hM, rd_M16 hM, rd_M17 hM, rd_M18 hM, rd_M19 hM, rd_M20 hM, rd_M21 hM, rd_M22 hM, rd_M23 hM, rd_M24 hM, rd_M25 hM, gP_M hM hl, wr_M1 hM hl, wr_M2 hM hl, wr_M3 hM hl, wr_M4 hM hl, wr_M5 hM hl, wr_M6 hM hl, wr_M7 hM hl, wr_M8 hM hl, wr_M9 hM hl, wr_M10 hM hl, wr_M11 hM hl, wr_M12 hM hl, wr_M13 hM hl, wr_M14 hM hl, wr_M15 hM hl, wr_M16 hM hl, wr_M17 hM hl, wr_M18 hM hl, wr_M19 hM hl, wr_M20 hM hl, wr_M21 hM hl, wr_M22 hM hl, wr_M23 hM hl, wr_M24 hM hl, wr_M25 hM hl, sB_0, sB_c, u3_sB0, u3_sB, u3_s, u3_n, Nat.reduceLT, Jl0, Jl1, Jl2, Jl3, Jl4, Jl5, Jl6, Jl7, Jl8, Jl9, Jl10, Jl11, Jl12, Jl13, Jl14, Jl15, Jl16, Jl17, Jl18, Jl19, Jl20, Jl22, Jl24, Jl28, Jl30, Jl31, Jl32, Jl35, Jl36, Jl37, Jl38, Jl39, Jl40, Jl48, Jl57, Jl59, Jl60, Jl61, Jl63, Jl64, Jl68, Jl69, Jl96, Jl97, Jl98, Jl99, Jl100, Jl122, Jl149, Jl150, Jl165, Jl255, Jl511, Jl512, Jl600, Jl610, Jl940, Jl968, Jl999, Jl1134, Jl1152, Jl2048, Jl4608, Jl9999, Jl99999, Jl100000, Jl147456, Jl12345, Jl1103515245, Jl100000000, Jlm1, Jlm2, J_add, J_sub, J_mul, J_lt, J_le, J_eq, J_ite, J_cl, ri_j, wi_j, b2i_z, b2i_o, b2i_zo, Int.cast_ofNat_Int, Int.natCast_zero, Int.natCast_one, if_true, if_false, ite_self, Int.le_refl, J_bit, J_or, J_neg, J_oN, Int.reduceEq, Int.reduceLT, Int.reduceLE, Int.reduceNeg, Int.reduceAdd, Int.reduceSub, Int.reduceMul, Int.reduceToNat, J_shl, J_shr, V_ite, true_or, or_true, nz_j, J_div, J_rem, Option.bind_some, Option.toList_some, Option.toList_none, List.cons_append, List.nil_append, Jl21, Jl23, Jl25, Jl74, Jl83, Jl288, Jl324, Jl1800, Jlm8]
    obtain ⟨M2, c1, c2, c3⟩ := clr3_sp (E := E) (lo := lo) (d := d) (I := I) (M := tx1 N) (by omega) hM hl hs4
    have r0 : ∀ j, M2 0 j = tx1 N 0 j := fun j => by rw [c2 0 (by decide)]
    have r1 : M2 1 = tx5 M 0 (-1) := by rw [c2 1 (by decide), tx1_c (by decide), T1]
    have r2 : M2 2 = M 2 := by rw [c2 2 (by decide), tx1_c (by decide), T2]
    have f02 : M2 0 2 = M 1 4 := by
      rw [r0]
      unfold tx1 tx0
      simp (disch := omega) only [u3_n, u3_s]
      rw [N1 1 (by decide)]
    have f03 : M2 0 3 = 0 := by
      rw [r0]
      unfold tx1
      simp (disch := omega) only [u3_n, u3_s]
    have f08 : M2 0 8 = 0 := by
      rw [r0]
      unfold tx1
      simp (disch := omega) only [u3_n, u3_s]
    have f09 : M2 0 9 = -1 := by
      rw [r0]
      unfold tx1
      simp (disch := omega) only [u3_n, u3_s]
    have f10 : M2 0 10 = -1 := by
      rw [r0]
      unfold tx1
      simp (disch := omega) only [u3_s]
    have f67 : i32 (M2 0 6) ∧ i32 (M2 0 7) := by
      rw [r0, r0]
      unfold tx1 tx0
      simp (disch := omega) only [u3_n]
      exact N6
    have ftp : ∀ j, 0 ≤ j → tpB M2 j = tpB M j := fun j hj => by
      unfold tpB
      rw [r1]
      unfold tx5
      rw [if_neg (by omega), if_neg (by omega), if_neg (by omega)]
    have f5 : M2 1 5 = 0 ∧ M2 1 6 = -1 := by
      rw [r1]
      exact ⟨rfl, rfl⟩
    have hO := adv_st (M2 := M2) (B := tpB M) (n := M 1 4) f02 hn f03 ftp ht f67 f08 ⟨f09, f10⟩ f5
    have hadv := adv_sp (E := E) (lo := lo) (d := d) (I := I) (M := M2) (by omega) hM hl (by rw [f02]; exact hn) (by rw [f03]; omega) (fun j a b => by rw [ftp j a]; exact ht j a b)
    have s3 : ex PG E lo d 199 91 [some (.ref m), some (.int (J (s))), some (.int (J (a))), none, none, none] [] (mj μ (sB I m 26 (tx1 N))) = ex PG E lo d 199 100 [some (.ref m), some (.int (J (s))), some (.int (J (a))), none, none, none] [] (mj μ (sB I m 26 (advM M2))) := by
      simp (disch := omega) only [b199_91, b199_96, gO_M hM, gR_M0 hM, gR_M1 hM, gR_M11 hM, gR_M13 hM, gR_M14 hM, gR_M15 hM, gR_M16 hM, gR_M17 hM, gR_M22 hM, gR_M32 hM, gR_M33 hM, gR_M34 hM, gR_M35 hM, gR_M36 hM, gR_M37 hM, gR_M38 hM, gR_M41 hM, gR_M42 hM, gR_M43 hM, gR_M45 hM, gR_M46 hM, gR_M47 hM, gR_M50 hM, gR_M51 hM, gR_M52 hM, al_M1 hM, al_M2 hM, al_M3 hM, al_M4 hM, al_M5 hM, al_M6 hM, al_M7 hM, al_M8 hM, al_M9 hM, al_M10 hM, al_M11 hM, al_M12 hM, al_M13 hM, al_M14 hM, al_M15 hM, al_M16 hM, al_M17 hM, al_M18 hM, al_M19 hM, al_M20 hM, al_M21 hM, al_M22 hM, al_M23 hM, al_M24 hM, al_M25 hM, rd_M1 hM, rd_M2 hM, rd_M3 hM, rd_M4 hM, rd_M5 hM, rd_M6 hM, rd_M7 hM, rd_M8 hM, rd_M9 hM, rd_M10 hM, rd_M11 hM, rd_M12 hM, rd_M13 hM, rd_M14 hM, rd_M15 hM, rd_M16 hM, rd_M17 hM, rd_M18 hM, rd_M19 hM, rd_M20 hM, rd_M21 hM, rd_M22 hM, rd_M23 hM, rd_M24 hM, rd_M25 hM, gP_M hM hl, wr_M1 hM hl, wr_M2 hM hl, wr_M3 hM hl, wr_M4 hM hl, wr_M5 hM hl, wr_M6 hM hl, wr_M7 hM hl, wr_M8 hM hl, wr_M9 hM hl, wr_M10 hM hl, wr_M11 hM hl, wr_M12 hM hl, wr_M13 hM hl, wr_M14 hM hl, wr_M15 hM hl, wr_M16 hM hl, wr_M17 hM hl, wr_M18 hM hl, wr_M19 hM hl, wr_M20 hM hl, wr_M21 hM hl, wr_M22 hM hl, wr_M23 hM hl, wr_M24 hM hl, wr_M25 hM hl, sB_0, sB_c, u3_sB0, u3_sB, u3_s, u3_n, Nat.reduceLT, c1, hadv, Jl0, Jl1, Jl2, Jl3, Jl4, Jl5, Jl6, Jl7, Jl8, Jl9, Jl10, Jl11, Jl12, Jl13, Jl14, Jl15, Jl16, Jl17, Jl18, Jl19, Jl20, Jl22, Jl24, Jl28, Jl30, Jl31, Jl32, Jl35, Jl36, Jl37, Jl38, Jl39, Jl40, Jl48, Jl57, Jl59, Jl60, Jl61, Jl63, Jl64, Jl68, Jl69, Jl96, Jl97, Jl98, Jl99, Jl100, Jl122, Jl149, Jl150, Jl165, Jl255, Jl511, Jl512, Jl600, Jl610, Jl940, Jl968, Jl999, Jl1134, Jl1152, Jl2048, Jl4608, Jl9999, Jl99999, Jl100000, Jl147456, Jl12345, Jl1103515245, Jl100000000, Jlm1, Jlm2, J_add, J_sub, J_mul, J_lt, J_le, J_eq, J_ite, J_cl, ri_j, wi_j, b2i_z, b2i_o, b2i_zo, Int.cast_ofNat_Int, Int.natCast_zero, Int.natCast_one, if_true, if_false, ite_self, Int.le_refl, J_bit, J_or, J_neg, J_oN, Int.reduceEq, Int.reduceLT, Int.reduceLE, Int.reduceNeg, Int.reduceAdd, Int.reduceSub, Int.reduceMul, Int.reduceToNat, J_shl, J_shr, V_ite, true_or, or_true, nz_j, J_div, J_rem, Option.bind_some, Option.toList_some, Option.toList_none, List.cons_append, List.nil_append, Jl21, Jl23, Jl25, Jl74, Jl83, Jl288, Jl324, Jl1800, Jlm8]
    obtain ⟨hCT, hSF⟩ := cl_CT (M := advM M2) (D := D) hs4 hD (fun j a b => by rw [advM_f.2.1 3 (by decide)]; exact c3 j a b) ⟨by rw [advM_f.1 9 (by omega)]; exact f09, by rw [advM_f.1 10 (by omega)]; exact f10⟩
    have w0 := hO.2.1.2.1
    obtain ⟨M4, p1, p2, p3, p4, p5⟩ := tx_lp (E := E) (lo := lo) (d := d) (I := I) (a := a) (by omega) hM hl hs4 601 (advM M2) _ _ D hO hSF (fun _ => hCT) (by omega)
    rw [s1, s2, s3, p1]
    have M42 : M4 2 = M 2 := by rw [p2.2, advM_f.2.1 2 (by decide), r2]
    have M41 : ∀ j, j ≠ 5 → j ≠ 6 → M4 1 j = tx5 M 0 (-1) j := fun j a b => by rw [p2.1 j a b, advM_f.2.1 1 (by decide), r1]
    have M4s : M4 1 s = M 1 s := by
      rw [M41 s (by omega) (by omega)]
      unfold tx5
      rw [if_neg (by omega), if_neg (by omega), if_neg (by omega)]
    have hDI := tx_DI (B := tpB M) (n := M 1 4) hs4 601 (tW (tpB M) (M 1 4) 0) (0, -1) D (Cl0_DI hD)
    obtain ⟨R, hR⟩ : ∃ R, R = txF s (tpB M) (M 1 4) 601 (tW (tpB M) (M 1 4) 0) (0, -1) D := ⟨_, rfl⟩
    rw [← hR] at p4 p5 hDI
    have i5 := p3.1.2.2.2.2.2.2.1
    have i6 := p3.1.2.2.2.2.2.2.2
    unfold i32 at i5 i6
    by_cases cf : R.1.1 = 0
    · obtain ⟨q1, q2, q3⟩ := p5 cf
      have e5 : M4 1 5 = 0 := by rw [p4.1, cf]
      -- the end, where all is good
      have fin : txR s (tpB M) (M 1 4) D = R → R.1 = (0, -1) → ∀ (r : Option rRs) (x3 : Int), r = ex PG E lo d 199 214 [some (.ref m), some (.int (J (s))), some (.int (J (a))), some (.int (J (x3))), none, none] [] (mj μ (sB I m 26 M4)) → TxO μ I m M s a D r := by
        intro eR eq r x3 er
        have L := tx_lay (E := E) (lo := lo) (d := d) (I := I) (M := M4) (a := a) (by omega) hM hl hs4 hx.2 (by rw [M4s]; exact hcs) (by rw [M4s]; exact hoa) x3
        have eK : txK M4 s a = txK M s a := by unfold txK; rw [M4s]
        rw [eK] at L
        refine ⟨_, _, er.trans L, ?_, Or.inr (Or.inr ⟨hok, by rw [eR]; exact cf, rfl, fun j hj => ?_, M4, by rw [eR]; exact q1, fun i g1 g2 => ?_⟩)⟩
        · funext j
          unfold lyM
          rw [if_neg (fun z => absurd z.1 (by decide))]
          split
          · rw [u3_c (by decide), M42]
          · rw [M42]
        · have e6 : M4 1 6 = -1 := by rw [p4.2, eq]
          have e41 : M4 1 j = tx5 M 0 (-1) j := by
            by_cases c5 : j = 5
            · rw [c5, e5]; rfl
            · by_cases c6 : j = 6
              · rw [c6, e6]; rfl
              · exact M41 j c5 c6
          unfold lyM
          rw [if_neg (by omega)]
          by_cases ca : a = -1
          · rw [if_pos ca]
            by_cases cj : j = s
            · rw [if_pos ⟨cj, ca⟩, cj, u3_s, M4s]
            · rw [if_neg (fun z => cj z.1), u3_n (fun z => cj z.2), e41]
          · rw [if_neg ca, if_neg (fun z => ca z.2), e41]
        · unfold lyM
          rw [if_pos (by omega), show plQ s (txK M s a) + i - plQ s (txK M s a) = i by omega]
          split
          · rw [u3_c (by decide)]
          · rfl
      have eq : R.1 = (0, -1) := by
        rw [hR] at cf ⊢
        exact (tx_q 601 _ _ _ cf).1
      by_cases c0 : s = 0
      · have hC : CSt M4 R.2.1 R.2.2.1 R.2.2.2 := q1.1 c0
        have hI : StI R.2 := hDI.1 c0
        have hw := we_sp (E := E) (lo := lo) (d := d) (I := I) (by omega) hM p3 hC hI
        obtain ⟨cl, hcl⟩ : ∃ cl, cl = clQ R.2 := ⟨_, rfl⟩
        have hcv := clQ_v (d := R.2)
        rw [show (R.2.1, R.2.2.1, R.2.2.2) = R.2 from rfl, ← hcl] at hw
        rw [← hcl] at hcv
        by_cases cc : cl = 0
        · have eR : txR s (tpB M) (M 1 4) D = R := by
            unfold txR
            rw [← hR, if_neg (fun z => z.2.2 (by rw [← hcl]; exact cc))]
          refine fin eR eq _ 0 ?_
          subst c0
          rw [cc] at hw
          simp (disch := omega) only [b199_168, b199_177, b199_181, b199_185, b199_189, b199_203, gO_M hM, gR_M0 hM, gR_M1 hM, gR_M11 hM, gR_M13 hM, gR_M14 hM, gR_M15 hM, gR_M16 hM, gR_M17 hM, gR_M22 hM, gR_M32 hM, gR_M33 hM, gR_M34 hM, gR_M35 hM, gR_M36 hM, gR_M37 hM, gR_M38 hM, gR_M41 hM, gR_M42 hM, gR_M43 hM, gR_M45 hM, gR_M46 hM, gR_M47 hM, gR_M50 hM, gR_M51 hM, gR_M52 hM, al_M1 hM, al_M2 hM, al_M3 hM, al_M4 hM, al_M5 hM, al_M6 hM, al_M7 hM, al_M8 hM, al_M9 hM, al_M10 hM, al_M11 hM, al_M12 hM, al_M13 hM, al_M14 hM, al_M15 hM, al_M16 hM, al_M17 hM, al_M18 hM, al_M19 hM, al_M20 hM, al_M21 hM, al_M22 hM, al_M23 hM, al_M24 hM, al_M25 hM, rd_M1 hM, rd_M2 hM, rd_M3 hM, rd_M4 hM, rd_M5 hM, rd_M6 hM, rd_M7 hM, rd_M8 hM, rd_M9 hM, rd_M10 hM, rd_M11 hM, rd_M12 hM, rd_M13 hM, rd_M14 hM, rd_M15 hM, rd_M16 hM, rd_M17 hM, rd_M18 hM, rd_M19 hM, rd_M20 hM, rd_M21 hM, rd_M22 hM, rd_M23 hM, rd_M24 hM, rd_M25 hM, gP_M hM hl, wr_M1 hM hl, wr_M2 hM hl, wr_M3 hM hl, wr_M4 hM hl, wr_M5 hM hl, wr_M6 hM hl, wr_M7 hM hl, wr_M8 hM hl, wr_M9 hM hl, wr_M10 hM hl, wr_M11 hM hl, wr_M12 hM hl, wr_M13 hM hl, wr_M14 hM hl, wr_M15 hM hl, wr_M16 hM hl, wr_M17 hM hl, wr_M18 hM hl, wr_M19 hM hl, wr_M20 hM hl, wr_M21 hM hl, wr_M22 hM hl, wr_M23 hM hl, wr_M24 hM hl, wr_M25 hM hl, sB_0, sB_c, u3_sB0, u3_sB, u3_s, u3_n, Nat.reduceLT, e5, hw, Jl0, Jl1, Jl2, Jl3, Jl4, Jl5, Jl6, Jl7, Jl8, Jl9, Jl10, Jl11, Jl12, Jl13, Jl14, Jl15, Jl16, Jl17, Jl18, Jl19, Jl20, Jl22, Jl24, Jl28, Jl30, Jl31, Jl32, Jl35, Jl36, Jl37, Jl38, Jl39, Jl40, Jl48, Jl57, Jl59, Jl60, Jl61, Jl63, Jl64, Jl68, Jl69, Jl96, Jl97, Jl98, Jl99, Jl100, Jl122, Jl149, Jl150, Jl165, Jl255, Jl511, Jl512, Jl600, Jl610, Jl940, Jl968, Jl999, Jl1134, Jl1152, Jl2048, Jl4608, Jl9999, Jl99999, Jl100000, Jl147456, Jl12345, Jl1103515245, Jl100000000, Jlm1, Jlm2, J_add, J_sub, J_mul, J_lt, J_le, J_eq, J_ite, J_cl, ri_j, wi_j, b2i_z, b2i_o, b2i_zo, Int.cast_ofNat_Int, Int.natCast_zero, Int.natCast_one, if_true, if_false, ite_self, Int.le_refl, J_bit, J_or, J_neg, J_oN, Int.reduceEq, Int.reduceLT, Int.reduceLE, Int.reduceNeg, Int.reduceAdd, Int.reduceSub, Int.reduceMul, Int.reduceToNat, J_shl, J_shr, V_ite, true_or, or_true, nz_j, J_div, J_rem, Option.bind_some, Option.toList_some, Option.toList_none, List.cons_append, List.nil_append, Jl21, Jl23, Jl25, Jl74, Jl83, Jl288, Jl324, Jl1800, Jlm8]
        · have eR : txR s (tpB M) (M 1 4) D = ((cl, M 1 4), R.2) := by
            unfold txR
            rw [← hR, if_pos ⟨c0, cf, by rw [← hcl]; exact cc⟩, ← hcl]
          have hal := also_sp (E := E) (lo := lo) (d := d) (I := I) (M := M4) (k := cl) (p := M 1 4) (by omega) hM hl p3.1.2.2.1 p3.1.2.2.2.2.2.2 ⟨by unfold i32; omega, by unfold i32; omega⟩
          have ea : alsoM M4 cl (M 1 4) = u3 (u3 M4 1 5 cl) 1 6 (M 1 4) := if_pos ⟨q2, Or.inl e5⟩
          rw [ea] at hal
          refine ⟨-1, u3 (u3 M4 1 5 cl) 1 6 (M 1 4), ?_, by rw [u3_c (by decide), u3_c (by decide), M42], Or.inr (Or.inl ⟨hok, by rw [eR]; exact cc, rfl, ?_⟩)⟩
          · subst c0
            simp (disch := omega) only [b199_168, b199_177, b199_181, b199_185, b199_189, b199_194, b199_203, b199_212, gO_M hM, gR_M0 hM, gR_M1 hM, gR_M11 hM, gR_M13 hM, gR_M14 hM, gR_M15 hM, gR_M16 hM, gR_M17 hM, gR_M22 hM, gR_M32 hM, gR_M33 hM, gR_M34 hM, gR_M35 hM, gR_M36 hM, gR_M37 hM, gR_M38 hM, gR_M41 hM, gR_M42 hM, gR_M43 hM, gR_M45 hM, gR_M46 hM, gR_M47 hM, gR_M50 hM, gR_M51 hM, gR_M52 hM, al_M1 hM, al_M2 hM, al_M3 hM, al_M4 hM, al_M5 hM, al_M6 hM, al_M7 hM, al_M8 hM, al_M9 hM, al_M10 hM, al_M11 hM, al_M12 hM, al_M13 hM, al_M14 hM, al_M15 hM, al_M16 hM, al_M17 hM, al_M18 hM, al_M19 hM, al_M20 hM, al_M21 hM, al_M22 hM, al_M23 hM, al_M24 hM, al_M25 hM, rd_M1 hM, rd_M2 hM, rd_M3 hM, rd_M4 hM, rd_M5 hM, rd_M6 hM, rd_M7 hM, rd_M8 hM, rd_M9 hM, rd_M10 hM, rd_M11 hM, rd_M12 hM, rd_M13 hM, rd_M14 hM, rd_M15 hM, rd_M16 hM, rd_M17 hM, rd_M18 hM, rd_M19 hM, rd_M20 hM, rd_M21 hM, rd_M22 hM, rd_M23 hM, rd_M24 hM, rd_M25 hM, gP_M hM hl, wr_M1 hM hl, wr_M2 hM hl, wr_M3 hM hl, wr_M4 hM hl, wr_M5 hM hl, wr_M6 hM hl, wr_M7 hM hl, wr_M8 hM hl, wr_M9 hM hl, wr_M10 hM hl, wr_M11 hM hl, wr_M12 hM hl, wr_M13 hM hl, wr_M14 hM hl, wr_M15 hM hl, wr_M16 hM hl, wr_M17 hM hl, wr_M18 hM hl, wr_M19 hM hl, wr_M20 hM hl, wr_M21 hM hl, wr_M22 hM hl, wr_M23 hM hl, wr_M24 hM hl, wr_M25 hM hl, sB_0, sB_c, u3_sB0, u3_sB, u3_s, u3_n, Nat.reduceLT, e5, hw, q3, hal, Jl0, Jl1, Jl2, Jl3, Jl4, Jl5, Jl6, Jl7, Jl8, Jl9, Jl10, Jl11, Jl12, Jl13, Jl14, Jl15, Jl16, Jl17, Jl18, Jl19, Jl20, Jl22, Jl24, Jl28, Jl30, Jl31, Jl32, Jl35, Jl36, Jl37, Jl38, Jl39, Jl40, Jl48, Jl57, Jl59, Jl60, Jl61, Jl63, Jl64, Jl68, Jl69, Jl96, Jl97, Jl98, Jl99, Jl100, Jl122, Jl149, Jl150, Jl165, Jl255, Jl511, Jl512, Jl600, Jl610, Jl940, Jl968, Jl999, Jl1134, Jl1152, Jl2048, Jl4608, Jl9999, Jl99999, Jl100000, Jl147456, Jl12345, Jl1103515245, Jl100000000, Jlm1, Jlm2, J_add, J_sub, J_mul, J_lt, J_le, J_eq, J_ite, J_cl, ri_j, wi_j, b2i_z, b2i_o, b2i_zo, Int.cast_ofNat_Int, Int.natCast_zero, Int.natCast_one, if_true, if_false, ite_self, Int.le_refl, J_bit, J_or, J_neg, J_oN, Int.reduceEq, Int.reduceLT, Int.reduceLE, Int.reduceNeg, Int.reduceAdd, Int.reduceSub, Int.reduceMul, Int.reduceToNat, J_shl, J_shr, V_ite, true_or, or_true, nz_j, J_div, J_rem, Option.bind_some, Option.toList_some, Option.toList_none, List.cons_append, List.nil_append, Jl21, Jl23, Jl25, Jl74, Jl83, Jl288, Jl324, Jl1800, Jlm8]
            repeat (first | rw [if_neg (by omega)] | rw [if_pos (by omega)])
          · rw [eR]
            funext j
            have := M41 j
            unfold u3 tx5
            unfold tx5 at this
            grind
      · have eR : txR s (tpB M) (M 1 4) D = R := by
          unfold txR
          rw [← hR, if_neg (fun z => c0 z.1)]
        refine fin eR eq _ 0 ?_
        simp (disch := omega) only [b199_168, b199_177, b199_188, b199_189, b199_203, gO_M hM, gR_M0 hM, gR_M1 hM, gR_M11 hM, gR_M13 hM, gR_M14 hM, gR_M15 hM, gR_M16 hM, gR_M17 hM, gR_M22 hM, gR_M32 hM, gR_M33 hM, gR_M34 hM, gR_M35 hM, gR_M36 hM, gR_M37 hM, gR_M38 hM, gR_M41 hM, gR_M42 hM, gR_M43 hM, gR_M45 hM, gR_M46 hM, gR_M47 hM, gR_M50 hM, gR_M51 hM, gR_M52 hM, al_M1 hM, al_M2 hM, al_M3 hM, al_M4 hM, al_M5 hM, al_M6 hM, al_M7 hM, al_M8 hM, al_M9 hM, al_M10 hM, al_M11 hM, al_M12 hM, al_M13 hM, al_M14 hM, al_M15 hM, al_M16 hM, al_M17 hM, al_M18 hM, al_M19 hM, al_M20 hM, al_M21 hM, al_M22 hM, al_M23 hM, al_M24 hM, al_M25 hM, rd_M1 hM, rd_M2 hM, rd_M3 hM, rd_M4 hM, rd_M5 hM, rd_M6 hM, rd_M7 hM, rd_M8 hM, rd_M9 hM, rd_M10 hM, rd_M11 hM, rd_M12 hM, rd_M13 hM, rd_M14 hM, rd_M15 hM, rd_M16 hM, rd_M17 hM, rd_M18 hM, rd_M19 hM, rd_M20 hM, rd_M21 hM, rd_M22 hM, rd_M23 hM, rd_M24 hM, rd_M25 hM, gP_M hM hl, wr_M1 hM hl, wr_M2 hM hl, wr_M3 hM hl, wr_M4 hM hl, wr_M5 hM hl, wr_M6 hM hl, wr_M7 hM hl, wr_M8 hM hl, wr_M9 hM hl, wr_M10 hM hl, wr_M11 hM hl, wr_M12 hM hl, wr_M13 hM hl, wr_M14 hM hl, wr_M15 hM hl, wr_M16 hM hl, wr_M17 hM hl, wr_M18 hM hl, wr_M19 hM hl, wr_M20 hM hl, wr_M21 hM hl, wr_M22 hM hl, wr_M23 hM hl, wr_M24 hM hl, wr_M25 hM hl, sB_0, sB_c, u3_sB0, u3_sB, u3_s, u3_n, Nat.reduceLT, e5, Jl0, Jl1, Jl2, Jl3, Jl4, Jl5, Jl6, Jl7, Jl8, Jl9, Jl10, Jl11, Jl12, Jl13, Jl14, Jl15, Jl16, Jl17, Jl18, Jl19, Jl20, Jl22, Jl24, Jl28, Jl30, Jl31, Jl32, Jl35, Jl36, Jl37, Jl38, Jl39, Jl40, Jl48, Jl57, Jl59, Jl60, Jl61, Jl63, Jl64, Jl68, Jl69, Jl96, Jl97, Jl98, Jl99, Jl100, Jl122, Jl149, Jl150, Jl165, Jl255, Jl511, Jl512, Jl600, Jl610, Jl940, Jl968, Jl999, Jl1134, Jl1152, Jl2048, Jl4608, Jl9999, Jl99999, Jl100000, Jl147456, Jl12345, Jl1103515245, Jl100000000, Jlm1, Jlm2, J_add, J_sub, J_mul, J_lt, J_le, J_eq, J_ite, J_cl, ri_j, wi_j, b2i_z, b2i_o, b2i_zo, Int.cast_ofNat_Int, Int.natCast_zero, Int.natCast_one, if_true, if_false, ite_self, Int.le_refl, J_bit, J_or, J_neg, J_oN, Int.reduceEq, Int.reduceLT, Int.reduceLE, Int.reduceNeg, Int.reduceAdd, Int.reduceSub, Int.reduceMul, Int.reduceToNat, J_shl, J_shr, V_ite, true_or, or_true, nz_j, J_div, J_rem, Option.bind_some, Option.toList_some, Option.toList_none, List.cons_append, List.nil_append, Jl21, Jl23, Jl25, Jl74, Jl83, Jl288, Jl324, Jl1800, Jlm8]
        repeat (first | rw [if_neg (by omega)] | rw [if_pos (by omega)])
    · have eR : txR s (tpB M) (M 1 4) D = R := by
        unfold txR
        rw [← hR, if_neg (fun z => cf z.2.1)]
      refine ⟨-1, M4, ?_, M42, Or.inr (Or.inl ⟨hok, by rw [eR]; exact cf, rfl, ?_⟩)⟩
      · have e5 : ¬ M4 1 5 = 0 := by rw [p4.1]; exact cf
        simp (disch := omega) only [b199_168, b199_188, b199_189, b199_203, b199_212, gO_M hM, gR_M0 hM, gR_M1 hM, gR_M11 hM, gR_M13 hM, gR_M14 hM, gR_M15 hM, gR_M16 hM, gR_M17 hM, gR_M22 hM, gR_M32 hM, gR_M33 hM, gR_M34 hM, gR_M35 hM, gR_M36 hM, gR_M37 hM, gR_M38 hM, gR_M41 hM, gR_M42 hM, gR_M43 hM, gR_M45 hM, gR_M46 hM, gR_M47 hM, gR_M50 hM, gR_M51 hM, gR_M52 hM, al_M1 hM, al_M2 hM, al_M3 hM, al_M4 hM, al_M5 hM, al_M6 hM, al_M7 hM, al_M8 hM, al_M9 hM, al_M10 hM, al_M11 hM, al_M12 hM, al_M13 hM, al_M14 hM, al_M15 hM, al_M16 hM, al_M17 hM, al_M18 hM, al_M19 hM, al_M20 hM, al_M21 hM, al_M22 hM, al_M23 hM, al_M24 hM, al_M25 hM, rd_M1 hM, rd_M2 hM, rd_M3 hM, rd_M4 hM, rd_M5 hM, rd_M6 hM, rd_M7 hM, rd_M8 hM, rd_M9 hM, rd_M10 hM, rd_M11 hM, rd_M12 hM, rd_M13 hM, rd_M14 hM, rd_M15 hM, rd_M16 hM, rd_M17 hM, rd_M18 hM, rd_M19 hM, rd_M20 hM, rd_M21 hM, rd_M22 hM, rd_M23 hM, rd_M24 hM, rd_M25 hM, gP_M hM hl, wr_M1 hM hl, wr_M2 hM hl, wr_M3 hM hl, wr_M4 hM hl, wr_M5 hM hl, wr_M6 hM hl, wr_M7 hM hl, wr_M8 hM hl, wr_M9 hM hl, wr_M10 hM hl, wr_M11 hM hl, wr_M12 hM hl, wr_M13 hM hl, wr_M14 hM hl, wr_M15 hM hl, wr_M16 hM hl, wr_M17 hM hl, wr_M18 hM hl, wr_M19 hM hl, wr_M20 hM hl, wr_M21 hM hl, wr_M22 hM hl, wr_M23 hM hl, wr_M24 hM hl, wr_M25 hM hl, sB_0, sB_c, u3_sB0, u3_sB, u3_s, u3_n, Nat.reduceLT, Jl0, Jl1, Jl2, Jl3, Jl4, Jl5, Jl6, Jl7, Jl8, Jl9, Jl10, Jl11, Jl12, Jl13, Jl14, Jl15, Jl16, Jl17, Jl18, Jl19, Jl20, Jl22, Jl24, Jl28, Jl30, Jl31, Jl32, Jl35, Jl36, Jl37, Jl38, Jl39, Jl40, Jl48, Jl57, Jl59, Jl60, Jl61, Jl63, Jl64, Jl68, Jl69, Jl96, Jl97, Jl98, Jl99, Jl100, Jl122, Jl149, Jl150, Jl165, Jl255, Jl511, Jl512, Jl600, Jl610, Jl940, Jl968, Jl999, Jl1134, Jl1152, Jl2048, Jl4608, Jl9999, Jl99999, Jl100000, Jl147456, Jl12345, Jl1103515245, Jl100000000, Jlm1, Jlm2, J_add, J_sub, J_mul, J_lt, J_le, J_eq, J_ite, J_cl, ri_j, wi_j, b2i_z, b2i_o, b2i_zo, Int.cast_ofNat_Int, Int.natCast_zero, Int.natCast_one, if_true, if_false, ite_self, Int.le_refl, J_bit, J_or, J_neg, J_oN, Int.reduceEq, Int.reduceLT, Int.reduceLE, Int.reduceNeg, Int.reduceAdd, Int.reduceSub, Int.reduceMul, Int.reduceToNat, J_shl, J_shr, V_ite, true_or, or_true, nz_j, J_div, J_rem, Option.bind_some, Option.toList_some, Option.toList_none, List.cons_append, List.nil_append, Jl21, Jl23, Jl25, Jl74, Jl83, Jl288, Jl324, Jl1800, Jlm8]
        repeat (first | rw [if_neg (by omega)] | rw [if_pos (by omega)])
      · rw [eR]
        funext j
        have h1 := M41 j
        have h2 := p4.1
        have h3 := p4.2
        unfold tx5 at h1 ⊢
        grind
  · rw [bad hok]
    exact ⟨-2, tx0 N, rfl, T2, Or.inl ⟨hok, rfl, T1⟩⟩
end REF
