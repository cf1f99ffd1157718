/-! text() OF THE CLASS, whole -/
theorem agD_l {s : Int} {S S2 S' : Nat → Int → Int} (hs : 0 ≤ s ∧ s < 4) (h : ∀ f, f < szT s → S f = S2 f) (ha : agD s S S') : agD s S2 S' := by
  have hs' : s = 0 ∨ s = 1 ∨ s = 2 ∨ s = 3 := by omega
  rcases hs' with rfl | rfl | rfl | rfl
  · have h' : ∀ f, f < 13 → S f = S2 f := h
    obtain ⟨a1, a2, a3⟩ := ha.1 rfl
    refine ⟨fun _ => ⟨by rw [← h' 0 (by omega)]; exact a1, fun i g1 g2 => by rw [← h' 1 (by omega)]; exact a2 i g1 g2, fun f f1 f2 j g1 g2 => by rw [← h' f (by omega)]; exact a3 f f1 f2 j g1 g2⟩, fun z => absurd z (by decide), fun z => absurd z (by decide), fun z => absurd z (by decide)⟩
  · have h' : ∀ f, f < 2 → S f = S2 f := h
    obtain ⟨a1, a2⟩ := ha.2.1 rfl
    refine ⟨fun z => absurd z (by decide), fun _ => ⟨by rw [← h' 0 (by omega)]; exact a1, fun i g1 g2 => by rw [← h' 1 (by omega)]; exact a2 i g1 g2⟩, fun z => absurd z (by decide), fun z => absurd z (by decide)⟩
  · have h' : ∀ f, f < 3 → S f = S2 f := h
    obtain ⟨a1, a2, a3⟩ := ha.2.2.1 rfl
    refine ⟨fun z => absurd z (by decide), fun z => absurd z (by decide), fun _ => ⟨by rw [← h' 0 (by omega)]; exact a1, fun i g1 g2 => by rw [← h' 1 (by omega)]; exact a2 i g1 g2, fun i g1 g2 => by rw [← h' 2 (by omega)]; exact a3 i g1 g2⟩, fun z => absurd z (by decide)⟩
  · have h' : ∀ f, f < 2 → S f = S2 f := h
    obtain ⟨a1, a2⟩ := ha.2.2.2 rfl
    refine ⟨fun z => absurd z (by decide), fun z => absurd z (by decide), fun z => absurd z (by decide), fun _ => ⟨by rw [← h' 0 (by omega)]; exact a1, fun i g1 g2 => by rw [← h' 1 (by omega)]; exact a2 i g1 g2⟩⟩
def TxC (lo : Nat) (μ : rM) (I : Nat → Int → Int) (s a n : Int) (B : Int → Int) (r : Option rRs) : Prop := ∃ v I' D, r = some (some (.int (J v)), mj μ I') ∧ Cl0 s D ∧ (∀ x, x ≠ lo + 1 → x ≠ lo + 1 + 2 → ¬ (lo + 8 ≤ x ∧ x < lo + 48) → ¬ (lo + 49 ≤ x ∧ x < lo + 72) → I' x = I x) ∧ I' (lo + 1) 1 = 0 ∧ ((¬ okC I lo s a ∧ v = -2 ∧ (I' (lo + 1) 2 = 0 ∧ I' (lo + 1) 3 = -1) ∧ I' (lo + 1 + 2) = I (lo + 1 + 2) ∧ ∀ x, lo + 8 ≤ x → x < lo + 48 → I' x = I x) ∨ (okC I lo s a ∧ (txR s B n D).1.1 ≠ 0 ∧ v = -1 ∧ (I' (lo + 1) 2 = (txR s B n D).1.1 ∧ I' (lo + 1) 3 = (txR s B n D).1.2) ∧ I' (lo + 1 + 2) = I (lo + 1 + 2) ∧ ∀ x, lo + 8 ≤ x → x < lo + 48 → I' x = I x) ∨ (okC I lo s a ∧ (txR s B n D).1.1 = 0 ∧ v = kC I lo s a ∧ (I' (lo + 1) 2 = 0 ∧ I' (lo + 1) 3 = -1) ∧ (∀ j, I' (lo + 1 + 2) j = if j = s ∧ a = -1 then I (lo + 1 + 2) s + 1 else I (lo + 1 + 2) j) ∧ (∀ x, lo + 8 ≤ x → x < lo + 48 → ¬ (adT lo s v ≤ x ∧ x < adT lo s v + szT s) → I' x = I x) ∧ agD s (txR s B n D).2.1 (rws I' (adT lo s v)) ∧ DI s (txR s B n D).2))
section TEXT
variable {E : (Nat → Value) × (Nat → Nat)} {lo d : Nat} {μ : rM} {I Z : Nat → Int → Int} {s k a n x : Int} {B : Int → Int}
theorem Sta_fr {I' : Nat → Int → Int} (h : Sta E lo μ I) (hf : ∀ x, x < lo → I' x = I x) : Sta E lo μ I' := by
  obtain ⟨⟨t0, t1, t2, t3, t4, h0, h1, h2, h3, h4⟩, ht⟩ := h
  have st : ∀ {q t : Nat} {l : List Int}, StA E μ I lo q t l → StA E μ I' lo q t l := fun z => ⟨z.1, z.2.1, z.2.2.1, fun j g1 g2 => by rw [hf _ z.2.1]; exact z.2.2.2 j g1 g2⟩
  refine ⟨⟨t0, t1, t2, t3, t4, st h0, st h1, st h2, st h3, st h4⟩, fun s hs => ?_⟩
  obtain ⟨a, b1, b2, ⟨b3, b4⟩, b5⟩ := ht s hs
  exact ⟨a, b1, b2, ⟨b3, fun j g1 g2 => by rw [hf _ a]; exact b4 j g1 g2⟩, b5⟩
theorem txR_DI {D : (Nat → Int → Int) × Int × Int} (hs : 0 ≤ s ∧ s < 4) (hD : Cl0 s D) : DI s (txR s B n D).2 := by
  have h := tx_DI (B := B) (n := n) hs 601 (tW B n 0) (0, -1) D (Cl0_DI hD)
  unfold txR
  split
  · exact h
  · exact h
theorem txR_0 {D : (Nat → Int → Int) × Int × Int} (h : (txR s B n D).1.1 = 0) : (txR s B n D).1 = (0, -1) := by
  unfold txR at h ⊢
  split at h
  · rename_i q
    exact absurd h q.2.2
  · rename_i q
    rw [if_neg q]
    exact (tx_q 601 _ _ _ h).1
theorem c_text (hd : 12 ≤ d) (hC : CO μ lo) (hSt : Sta E lo μ I) (hc : ∀ s, 0 ≤ s → s < 4 → 0 ≤ I (lo + 1 + 2) s ∧ I (lo + 1 + 2) s ≤ 2) (hn : 0 ≤ n ∧ n ≤ 600) (en : I (lo + 1) 1 = n) (hB : TpB I (lo + 2) B) (hx : i32 s ∧ i32 a) : TxC lo μ I s a n B (cl E lo d 124 [.ref lo, .int (J (s)), .int (J (a))] (mj μ I)) := by
  obtain ⟨d, rfl⟩ : ∃ e, d = e + 1 := ⟨d - 1, by omega⟩
  obtain ⟨hO, f0, f1, f2, f3, f4, f5, f6, f7, f8, hD⟩ := CO.o hC
  have hl1 : lo ≤ lo + 1 := by omega
  obtain ⟨I0, hI0⟩ : ∃ I0, I0 = u3 (u3 (u3 I (lo + 1) 1 0) (lo + 1) 2 0) (lo + 1) 3 (-1) := ⟨_, rfl⟩
  have z0 : ∀ x, x ≠ lo + 1 → I0 x = I x := fun x h => by rw [hI0, u3_c h, u3_c h, u3_c h]
  have ff1 : I0 (lo + 1) 1 = 0 := by rw [hI0]; simp (disch := omega) only [u3_n, u3_s]
  have ff2 : I0 (lo + 1) 2 = 0 := by rw [hI0]; simp (disch := omega) only [u3_n, u3_s]
  have ff3 : I0 (lo + 1) 3 = -1 := by rw [hI0, u3_s]
  have c0 : I0 (lo + 1 + 2) = I (lo + 1 + 2) := z0 _ (by omega)
  have s1 : cl E lo (d + 1) 124 [.ref lo, .int (J s), .int (J a)] (mj μ I) = ex PG E lo d 124 32 [some (.ref lo), some (.int (J (s))), some (.int (J (a))), some (.int (J (n))), none] [] (mj μ I0) := by
    rw [hI0]
    simp (disch := omega) only [b124_0, b124_16, b124_24, e124, gO_k hO, gR_k f0, gR_k f1, gR_k f2, gR_k f3, gR_k f4, gR_k f5, gR_k f6, gR_k f7, gR_k f8, gO_D hD, gR_D0 hD, gR_D4 hD, gR_D5 hD, gR_D6 hD, gR_D7 hD, gR_D8 hD, al_D1 hD, al_D2 hD, al_D3 hD, al_D4 hD, al_D5 hD, al_D6 hD, rd_D1 hD, rd_D2 hD, rd_D3 hD, rd_D4 hD, rd_D5 hD, rd_D6 hD, gO_D hD, gR_D0 hD, gR_D4 hD, gR_D5 hD, gR_D6 hD, gR_D7 hD, gR_D8 hD, al_D1 hD, al_D2 hD, al_D3 hD, al_D4 hD, al_D5 hD, al_D6 hD, rd_D1 hD, rd_D2 hD, rd_D3 hD, rd_D4 hD, rd_D5 hD, rd_D6 hD, gP_D hD hl1, wr_D1 hD hl1, wr_D2 hD hl1, en, Jl0, Jl1, Jl2, Jl3, Jl4, Jl5, Jl6, Jl7, Jl8, Jl9, Jl10, Jl11, Jl12, Jl13, Jl14, Jl15, Jl16, Jl17, Jl18, Jl19, Jl20, Jl22, Jl24, Jl28, Jl30, Jl31, Jl32, Jl35, Jl36, Jl37, Jl38, Jl39, Jl40, Jl48, Jl57, Jl59, Jl60, Jl61, Jl63, Jl64, Jl68, Jl69, Jl96, Jl97, Jl98, Jl99, Jl100, Jl122, Jl149, Jl150, Jl165, Jl255, Jl511, Jl512, Jl600, Jl610, Jl940, Jl968, Jl999, Jl1134, Jl1152, Jl2048, Jl4608, Jl9999, Jl99999, Jl100000, Jl147456, Jl12345, Jl1103515245, Jl100000000, Jlm1, Jlm2, J_add, J_sub, J_mul, J_lt, J_le, J_eq, J_ite, J_cl, ri_j, wi_j, b2i_z, b2i_o, b2i_zo, Int.cast_ofNat_Int, Int.natCast_zero, Int.natCast_one, if_true, if_false, ite_self, Int.le_refl, J_bit, J_or, J_neg, J_oN, Int.reduceEq, Int.reduceLT, Int.reduceLE, Int.reduceNeg, Int.reduceAdd, Int.reduceSub, Int.reduceMul, Int.reduceToNat, J_shl, J_shr, V_ite, true_or, or_true, nz_j, J_div, J_rem, Option.bind_some, Option.toList_some, Option.toList_none, List.cons_append, List.nil_append, Jl21, Jl23, Jl25, Jl74, Jl83, Jl288, Jl324, Jl1800, Jlm8]
  have hc0 : ∀ s, 0 ≤ s → s < 4 → 0 ≤ I0 (lo + 1 + 2) s ∧ I0 (lo + 1 + 2) s ≤ 2 := by rw [c0]; exact hc
  have ok0 : okC I0 lo s a ↔ okC I lo s a := by unfold okC; rw [c0]
  have kk0 : kC I0 lo s a = kC I lo s a := by unfold kC; rw [c0]
  rw [s1]
  have Dx : ∃ D : (Nat → Int → Int) × Int × Int, Cl0 s D := ⟨_, (clZ_f (Z := fun _ _ => 0)).2.2.2⟩
  by_cases hk : okC I lo s a
  · obtain ⟨hs, _⟩ := id hk
    obtain ⟨p1, p2⟩ := pf_y (E := E) (lo := lo) (d := d) (I := I0) (by omega) hC hx hc0 (ok0.mpr hk)
    rw [kk0] at p1 p2
    obtain ⟨K, hK⟩ : ∃ K, K = kC I lo s a := ⟨_, rfl⟩
    rw [← hK] at p1 p2
    have hX := hC.X
    have hB0 : TpB I0 (lo + 2) B := fun j g1 g2 => by rw [z0 _ (by omega)]; exact hB j g1 g2
    obtain ⟨Z', D, t1, t2, t3, t4, t5⟩ := take_sp (E := E) (lo := lo) (d := d) (I := I0) (Z := rws I0 (lo + 49)) (s := s) (n := n) (B := B) (by omega) hX (by omega) (by omega) hB0 hn (Sta_fr hSt (fun x h => z0 x (by omega))) hs
    rw [show sB I0 (lo + 49) 23 (rws I0 (lo + 49)) = I0 from sB_id] at t1
    have t6 := t5
    unfold i32 at t6
    have q6 : Z' 0 6 = (txR s B n D).1.1 := congrArg Prod.fst t3
    have q7 : Z' 0 7 = (txR s B n D).1.2 := congrArg Prod.snd t3
    obtain ⟨I1, hI1⟩ : ∃ I1, I1 = u3 (u3 (sB I0 (lo + 49) 23 Z') (lo + 1) 2 (Z' 0 6)) (lo + 1) 3 (Z' 0 7) := ⟨_, rfl⟩
    have z1 : ∀ x, x ≠ lo + 1 → I1 x = sB I0 (lo + 49) 23 Z' x := fun x h => by rw [hI1, u3_c h, u3_c h]
    have x0 := hC.sc.1
    have e6 : sB I0 (lo + 49) 23 Z' (lo + 49) = Z' 0 := sB_0 (by omega)
    have s2 : ex PG E lo d 124 32 [some (.ref lo), some (.int (J (s))), some (.int (J (a))), some (.int (J (n))), none] [] (mj μ I0) = ex PG E lo d 124 89 [some (.ref lo), some (.int (J (s))), some (.int (J (a))), some (.int (J (n))), some (.int (J (K)))] [] (mj μ I1) := by
      rw [hI1]
      simp (disch := omega) only [b124_32, b124_41, b124_52, b124_61, b124_75, gO_k hO, gR_k f0, gR_k f1, gR_k f2, gR_k f3, gR_k f4, gR_k f5, gR_k f6, gR_k f7, gR_k f8, gO_D hD, gR_D0 hD, gR_D4 hD, gR_D5 hD, gR_D6 hD, gR_D7 hD, gR_D8 hD, al_D1 hD, al_D2 hD, al_D3 hD, al_D4 hD, al_D5 hD, al_D6 hD, rd_D1 hD, rd_D2 hD, rd_D3 hD, rd_D4 hD, rd_D5 hD, rd_D6 hD, gO_D hD, gR_D0 hD, gR_D4 hD, gR_D5 hD, gR_D6 hD, gR_D7 hD, gR_D8 hD, al_D1 hD, al_D2 hD, al_D3 hD, al_D4 hD, al_D5 hD, al_D6 hD, rd_D1 hD, rd_D2 hD, rd_D3 hD, rd_D4 hD, rd_D5 hD, rd_D6 hD, gP_D hD hl1, wr_D1 hD hl1, wr_D2 hD hl1, p1, gO_k x0, t1, e6, u3_n, Jl0, Jl1, Jl2, Jl3, Jl4, Jl5, Jl6, Jl7, Jl8, Jl9, Jl10, Jl11, Jl12, Jl13, Jl14, Jl15, Jl16, Jl17, Jl18, Jl19, Jl20, Jl22, Jl24, Jl28, Jl30, Jl31, Jl32, Jl35, Jl36, Jl37, Jl38, Jl39, Jl40, Jl48, Jl57, Jl59, Jl60, Jl61, Jl63, Jl64, Jl68, Jl69, Jl96, Jl97, Jl98, Jl99, Jl100, Jl122, Jl149, Jl150, Jl165, Jl255, Jl511, Jl512, Jl600, Jl610, Jl940, Jl968, Jl999, Jl1134, Jl1152, Jl2048, Jl4608, Jl9999, Jl99999, Jl100000, Jl147456, Jl12345, Jl1103515245, Jl100000000, Jlm1, Jlm2, J_add, J_sub, J_mul, J_lt, J_le, J_eq, J_ite, J_cl, ri_j, wi_j, b2i_z, b2i_o, b2i_zo, Int.cast_ofNat_Int, Int.natCast_zero, Int.natCast_one, if_true, if_false, ite_self, Int.le_refl, J_bit, J_or, J_neg, J_oN, Int.reduceEq, Int.reduceLT, Int.reduceLE, Int.reduceNeg, Int.reduceAdd, Int.reduceSub, Int.reduceMul, Int.reduceToNat, J_shl, J_shr, V_ite, true_or, or_true, nz_j, J_div, J_rem, Option.bind_some, Option.toList_some, Option.toList_none, List.cons_append, List.nil_append, Jl21, Jl23, Jl25, Jl74, Jl83, Jl288, Jl324, Jl1800, Jlm8]
      repeat (first | rw [if_neg (by omega)] | rw [if_pos (by omega)])
    rw [s2]
    have e6' : I1 (lo + 49) = Z' 0 := by rw [z1 _ (by omega)]; exact e6
    have g1 : I1 (lo + 1) 1 = 0 := by
      rw [hI1, u3_n (by omega), u3_n (by omega), sB_n (by omega)]
      exact ff1
    have g2 : I1 (lo + 1) 2 = Z' 0 6 := by rw [hI1, u3_n (by omega), u3_s]
    have g3 : I1 (lo + 1) 3 = Z' 0 7 := by rw [hI1, u3_s]
    have gc : I1 (lo + 1 + 2) = I (lo + 1 + 2) := by rw [z1 _ (by omega), sB_n (by omega)]; exact c0
    have gf : ∀ x, x ≠ lo + 1 → ¬ (lo + 49 ≤ x ∧ x < lo + 72) → I1 x = I x := fun x h1 h2 => by rw [z1 x h1, sB_n (by omega)]; exact z0 x h1
    by_cases qf : Z' 0 6 = 0
    · have hDI := txR_DI (B := B) (n := n) hs t2
      have gd : ∀ f, f < szT s → rws I1 (scA lo s) f = (txR s B n D).2.1 f := by
        intro f hf
        rw [← t4]
        have hs' : s = 0 ∨ s = 1 ∨ s = 2 ∨ s = 3 := by omega
        rcases hs' with rfl | rfl | rfl | rfl
        · have hf' : f < 13 := hf
          show I1 (lo + 51 + f) = rwk Z' 2 13 f
          rw [rwk_g hf', z1 _ (by omega), show lo + 51 + f = lo + 49 + (2 + f) by omega, sB_c (by omega)]
        · have hf' : f < 2 := hf
          show I1 (lo + 64 + f) = rwk Z' 15 2 f
          rw [rwk_g hf', z1 _ (by omega), show lo + 64 + f = lo + 49 + (15 + f) by omega, sB_c (by omega)]
        · have hf' : f < 3 := hf
          show I1 (lo + 66 + f) = rwk Z' 17 3 f
          rw [rwk_g hf', z1 _ (by omega), show lo + 66 + f = lo + 49 + (17 + f) by omega, sB_c (by omega)]
        · have hf' : f < 2 := hf
          show I1 (lo + 69 + f) = rwk Z' 20 2 f
          rw [rwk_g hf', z1 _ (by omega), show lo + 69 + f = lo + 49 + (20 + f) by omega, sB_c (by omega)]
      have hcs := hc s hs.1 hs.2
      have hkp := kp_sp (E := E) (lo := lo) (d := d) (I := I1) (s := s) (k := K) (by omega) hC hs p2 (by rw [gc]; unfold i32; omega) (fun e => by
        have l := (hDI.2.1 e).1
        have g := congrFun (gd 0 (by rw [e]; decide)) 4
        subst e
        have g' : I1 (lo + 64) 4 = (txR 1 B n D).2.1 0 4 := g
        omega)
      rw [gc] at hkp
      have ab := adT_b (lo := lo) hs p2
      obtain ⟨cg1, cg2⟩ := cpD_ag (I := I1) (s := s) (a := adT lo s K) (b := scA lo s) hs
      have sR : (txR s B n D).1.1 = 0 := q6.symm.trans qf
      have sR2 := txR_0 sR
      refine ⟨K, u3 (cpD I1 s (adT lo s K) (scA lo s)) (lo + 1 + 2) s (if I (lo + 1 + 2) s < K + 1 then K + 1 else I (lo + 1 + 2) s), D, ?_, t2, fun x h1 h2 h3 h4 => ?_, ?_, Or.inr (Or.inr ⟨hk, sR, hK, ⟨?_, ?_⟩, fun j => ?_, fun x h1 h2 h3 => ?_, ?_, hDI⟩)⟩
      · simp (disch := omega) only [b124_89, b124_101, b124_108, gO_k hO, gR_k f0, gR_k f1, gR_k f2, gR_k f3, gR_k f4, gR_k f5, gR_k f6, gR_k f7, gR_k f8, gO_D hD, gR_D0 hD, gR_D4 hD, gR_D5 hD, gR_D6 hD, gR_D7 hD, gR_D8 hD, al_D1 hD, al_D2 hD, al_D3 hD, al_D4 hD, al_D5 hD, al_D6 hD, rd_D1 hD, rd_D2 hD, rd_D3 hD, rd_D4 hD, rd_D5 hD, rd_D6 hD, gO_D hD, gR_D0 hD, gR_D4 hD, gR_D5 hD, gR_D6 hD, gR_D7 hD, gR_D8 hD, al_D1 hD, al_D2 hD, al_D3 hD, al_D4 hD, al_D5 hD, al_D6 hD, rd_D1 hD, rd_D2 hD, rd_D3 hD, rd_D4 hD, rd_D5 hD, rd_D6 hD, gP_D hD hl1, wr_D1 hD hl1, wr_D2 hD hl1, gO_k x0, e6', qf, hkp, Jl0, Jl1, Jl2, Jl3, Jl4, Jl5, Jl6, Jl7, Jl8, Jl9, Jl10, Jl11, Jl12, Jl13, Jl14, Jl15, Jl16, Jl17, Jl18, Jl19, Jl20, Jl22, Jl24, Jl28, Jl30, Jl31, Jl32, Jl35, Jl36, Jl37, Jl38, Jl39, Jl40, Jl48, Jl57, Jl59, Jl60, Jl61, Jl63, Jl64, Jl68, Jl69, Jl96, Jl97, Jl98, Jl99, Jl100, Jl122, Jl149, Jl150, Jl165, Jl255, Jl511, Jl512, Jl600, Jl610, Jl940, Jl968, Jl999, Jl1134, Jl1152, Jl2048, Jl4608, Jl9999, Jl99999, Jl100000, Jl147456, Jl12345, Jl1103515245, Jl100000000, Jlm1, Jlm2, J_add, J_sub, J_mul, J_lt, J_le, J_eq, J_ite, J_cl, ri_j, wi_j, b2i_z, b2i_o, b2i_zo, Int.cast_ofNat_Int, Int.natCast_zero, Int.natCast_one, if_true, if_false, ite_self, Int.le_refl, J_bit, J_or, J_neg, J_oN, Int.reduceEq, Int.reduceLT, Int.reduceLE, Int.reduceNeg, Int.reduceAdd, Int.reduceSub, Int.reduceMul, Int.reduceToNat, J_shl, J_shr, V_ite, true_or, or_true, nz_j, J_div, J_rem, Option.bind_some, Option.toList_some, Option.toList_none, List.cons_append, List.nil_append, Jl21, Jl23, Jl25, Jl74, Jl83, Jl288, Jl324, Jl1800, Jlm8]
      · rw [u3_c h2, cg2 x (by omega)]
        exact gf x h1 h4
      · rw [u3_c (by omega), cg2 _ (by omega)]
        exact g1
      · rw [u3_c (by omega), cg2 _ (by omega), g2, qf]
      · rw [u3_c (by omega), cg2 _ (by omega), g3, q7, sR2]
      · by_cases qj : j = s
        · rw [qj, u3_s]
          unfold kC at hK
          by_cases qa : a = -1
          · rw [if_pos qa] at hK
            rw [if_pos (show I (lo + 1 + 2) s < K + 1 by omega), if_pos ⟨rfl, qa⟩]
            omega
          · rw [if_neg qa] at hK
            have := hk.2
            rw [if_neg qa] at this
            rw [if_neg (show ¬ I (lo + 1 + 2) s < K + 1 by omega), if_neg (fun z => qa z.2)]
        · rw [u3_n (fun z => qj z.2), if_neg (fun z => qj z.1), cg2 _ (by omega), gc]
      · rw [u3_c (by omega), cg2 x (by omega)]
        exact gf x (by omega) (by omega)
      · have e : rws (u3 (cpD I1 s (adT lo s K) (scA lo s)) (lo + 1 + 2) s (if I (lo + 1 + 2) s < K + 1 then K + 1 else I (lo + 1 + 2) s)) (adT lo s K) = rws (cpD I1 s (adT lo s K) (scA lo s)) (adT lo s K) := by
          funext f
          unfold rws
          rw [u3_c (by omega)]
        rw [e]
        exact agD_l hs gd cg1
    · refine ⟨-1, I1, D, ?_, t2, fun x h1 h2 h3 h4 => gf x h1 h4, g1, Or.inr (Or.inl ⟨hk, by rw [← q6]; exact qf, rfl, ⟨g2.trans q6, g3.trans q7⟩, gc, fun x h1 h2 => gf x (by omega) (by omega)⟩)⟩
      simp (disch := omega) only [b124_89, b124_99, gO_k hO, gR_k f0, gR_k f1, gR_k f2, gR_k f3, gR_k f4, gR_k f5, gR_k f6, gR_k f7, gR_k f8, gO_D hD, gR_D0 hD, gR_D4 hD, gR_D5 hD, gR_D6 hD, gR_D7 hD, gR_D8 hD, al_D1 hD, al_D2 hD, al_D3 hD, al_D4 hD, al_D5 hD, al_D6 hD, rd_D1 hD, rd_D2 hD, rd_D3 hD, rd_D4 hD, rd_D5 hD, rd_D6 hD, gO_D hD, gR_D0 hD, gR_D4 hD, gR_D5 hD, gR_D6 hD, gR_D7 hD, gR_D8 hD, al_D1 hD, al_D2 hD, al_D3 hD, al_D4 hD, al_D5 hD, al_D6 hD, rd_D1 hD, rd_D2 hD, rd_D3 hD, rd_D4 hD, rd_D5 hD, rd_D6 hD, gP_D hD hl1, wr_D1 hD hl1, wr_D2 hD hl1, gO_k x0, e6', Jl0, Jl1, Jl2, Jl3, Jl4, Jl5, Jl6, Jl7, Jl8, Jl9, Jl10, Jl11, Jl12, Jl13, Jl14, Jl15, Jl16, Jl17, Jl18, Jl19, Jl20, Jl22, Jl24, Jl28, Jl30, Jl31, Jl32, Jl35, Jl36, Jl37, Jl38, Jl39, Jl40, Jl48, Jl57, Jl59, Jl60, Jl61, Jl63, Jl64, Jl68, Jl69, Jl96, Jl97, Jl98, Jl99, Jl100, Jl122, Jl149, Jl150, Jl165, Jl255, Jl511, Jl512, Jl600, Jl610, Jl940, Jl968, Jl999, Jl1134, Jl1152, Jl2048, Jl4608, Jl9999, Jl99999, Jl100000, Jl147456, Jl12345, Jl1103515245, Jl100000000, Jlm1, Jlm2, J_add, J_sub, J_mul, J_lt, J_le, J_eq, J_ite, J_cl, ri_j, wi_j, b2i_z, b2i_o, b2i_zo, Int.cast_ofNat_Int, Int.natCast_zero, Int.natCast_one, if_true, if_false, ite_self, Int.le_refl, J_bit, J_or, J_neg, J_oN, Int.reduceEq, Int.reduceLT, Int.reduceLE, Int.reduceNeg, Int.reduceAdd, Int.reduceSub, Int.reduceMul, Int.reduceToNat, J_shl, J_shr, V_ite, true_or, or_true, nz_j, J_div, J_rem, Option.bind_some, Option.toList_some, Option.toList_none, List.cons_append, List.nil_append, Jl21, Jl23, Jl25, Jl74, Jl83, Jl288, Jl324, Jl1800, Jlm8]
      repeat (first | rw [if_neg (by omega)] | rw [if_pos (by omega)])
  · have p1 := pf_n (E := E) (lo := lo) (d := d) (I := I0) (by omega) hC hx hc0 (fun z => hk (ok0.mp z))
    obtain ⟨D, hD0⟩ := Dx
    refine ⟨-2, I0, D, ?_, hD0, fun x h1 h2 h3 h4 => z0 x h1, ff1, Or.inl ⟨hk, rfl, ⟨ff2, ff3⟩, c0, fun x h1 h2 => z0 x (by omega)⟩⟩
    simp (disch := omega) only [b124_32, b124_41, b124_49, gO_k hO, gR_k f0, gR_k f1, gR_k f2, gR_k f3, gR_k f4, gR_k f5, gR_k f6, gR_k f7, gR_k f8, gO_D hD, gR_D0 hD, gR_D4 hD, gR_D5 hD, gR_D6 hD, gR_D7 hD, gR_D8 hD, al_D1 hD, al_D2 hD, al_D3 hD, al_D4 hD, al_D5 hD, al_D6 hD, rd_D1 hD, rd_D2 hD, rd_D3 hD, rd_D4 hD, rd_D5 hD, rd_D6 hD, gO_D hD, gR_D0 hD, gR_D4 hD, gR_D5 hD, gR_D6 hD, gR_D7 hD, gR_D8 hD, al_D1 hD, al_D2 hD, al_D3 hD, al_D4 hD, al_D5 hD, al_D6 hD, rd_D1 hD, rd_D2 hD, rd_D3 hD, rd_D4 hD, rd_D5 hD, rd_D6 hD, gP_D hD hl1, wr_D1 hD hl1, wr_D2 hD hl1, p1, Jl0, Jl1, Jl2, Jl3, Jl4, Jl5, Jl6, Jl7, Jl8, Jl9, Jl10, Jl11, Jl12, Jl13, Jl14, Jl15, Jl16, Jl17, Jl18, Jl19, Jl20, Jl22, Jl24, Jl28, Jl30, Jl31, Jl32, Jl35, Jl36, Jl37, Jl38, Jl39, Jl40, Jl48, Jl57, Jl59, Jl60, Jl61, Jl63, Jl64, Jl68, Jl69, Jl96, Jl97, Jl98, Jl99, Jl100, Jl122, Jl149, Jl150, Jl165, Jl255, Jl511, Jl512, Jl600, Jl610, Jl940, Jl968, Jl999, Jl1134, Jl1152, Jl2048, Jl4608, Jl9999, Jl99999, Jl100000, Jl147456, Jl12345, Jl1103515245, Jl100000000, Jlm1, Jlm2, J_add, J_sub, J_mul, J_lt, J_le, J_eq, J_ite, J_cl, ri_j, wi_j, b2i_z, b2i_o, b2i_zo, Int.cast_ofNat_Int, Int.natCast_zero, Int.natCast_one, if_true, if_false, ite_self, Int.le_refl, J_bit, J_or, J_neg, J_oN, Int.reduceEq, Int.reduceLT, Int.reduceLE, Int.reduceNeg, Int.reduceAdd, Int.reduceSub, Int.reduceMul, Int.reduceToNat, J_shl, J_shr, V_ite, true_or, or_true, nz_j, J_div, J_rem, Option.bind_some, Option.toList_some, Option.toList_none, List.cons_append, List.nil_append, Jl21, Jl23, Jl25, Jl74, Jl83, Jl288, Jl324, Jl1800, Jlm8]
end TEXT
