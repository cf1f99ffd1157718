/-! THE CLASS: stand-ins -/
section CLASS
variable {E : (Nat → Value) × (Nat → Nat)} {lo d s l t : Nat} {μ : rM} {I S L T R : Nat → Int → Int} {x y z w k u h a b n : Int} {bb : Bool}
theorem NC_fs {I' : Nat → Int → Int} {n : Nat} (h : NC μ I n s l t S L T) (hs : ∀ a, s ≤ a → a < s + 13 → I' a = I a) (hl : ∀ a, l ≤ a → a < l + 2 → I' a = I a) (ht : ∀ a, t ≤ a → a < t + 5 → I' a = I a) (h1 : I' (n + 14) = I (n + 14)) (h2 : SiV (I' (n + 15))) : NC μ I' n s l t S L T := by
  obtain ⟨hN, h0, g1, g2, hS, hV, hL, hLV, hT, hTV, hA, hD, hI⟩ := h
  exact ⟨hN, h0, g1, g2, hS.fr hs, hV, hL.fr hl, hLV, hT.fr ht, hTV, hA, by rw [h1]; exact hD, h2⟩
theorem G9_b {si : Int → Int} (hV : SV S) (hLV : LV L) (hTV : TV T) (hs : SIo S si) : 0 ≤ G9 S L T si ∧ G9 S L T si ≤ 9000 := by
  have v := hV.1
  exact sm_due hV hLV hTV (fun j u z1 z2 z3 z4 => rdT_b hV ⟨z1, z2⟩ ⟨z3, z4⟩ ⟨(hs j z1 z2).1, (hs j z1 z2).2.1⟩) ⟨by omega, Int.le_refl _⟩
theorem u1_uu {f : Int → Int} {x v w : Int} : u1 (u1 f x v) x w = u1 f x w := by
  funext j
  unfold u1
  split <;> rfl
theorem u1_idv {f : Int → Int} {x v : Int} (h : f x = v) : u1 f x v = f := by
  funext j
  unfold u1
  split
  · rename_i c; rw [c, h]
  · rfl
theorem try_sp (hC : CO μ lo) (hZ : TZ T) (hs : s + 13 ≤ lo + 84 ∧ l + 2 ≤ lo + 84 ∧ t + 5 ≤ lo + 84) (hV : SV S) : ∀ (m d : Nat) (k met c0 b0 : Int) (si : Int → Int) (I : Nat → Int → Int), m + 5 ≤ d → k = S 0 3 - m → 0 ≤ k → NC μ I (lo + 84) s l t S L T → DT S T (I (lo + 84 + 14)) → I (lo + 84 + 15) = si → (∀ i, k ≤ i → i < S 0 3 → si i = -1) → SIo S si → 0 ≤ met ∧ met < 512 → I (lo + 102) 5 = c0 → 0 ≤ c0 ∧ c0 + Cn S m met ≤ 100000 → I (lo + 102) 2 = b0 → 0 ≤ b0 ∧ b0 ≤ 100000000 → ∃ I2 b1, cl E lo d 43 [.ref ((lo + 102)), .int (J (k)), .int (J (met))] (mj μ I) = some (none, mj μ I2) ∧ (∀ a, a ≠ lo + 84 + 15 → a ≠ lo + 84 + 16 → a ≠ lo + 84 + 17 → a ≠ lo + 102 → I2 a = I a) ∧ I2 (lo + 84 + 15) = si ∧ I2 (lo + 102) 5 = c0 + Cn S m met ∧ I2 (lo + 102) 2 = b1 ∧ (0 ≤ b1 ∧ b1 ≤ 100000000) ∧ Mn S L T m met si (fun _ => True) b0 b1 := by
  have v := hV.1
  obtain ⟨p0, p1⟩ := hC.p
  have hP := hC.P102
  have hlP : lo ≤ lo + 102 := by omega
  have hNi := hC.N84
  have hlN : lo ≤ lo + 84 := by omega
  intro m
  induction m with
  | zero =>
    intro d k met c0 b0 si I hd hk hk0 hN hDT hsi hneg hSo hmet hc0 hcb hb0 hbb
    obtain ⟨d, rfl⟩ : ∃ e, d = e + 1 := ⟨d - 1, by omega⟩
    obtain ⟨_, h0, h1, h2, hS, _, hL, hLV, hT, hTV, hA, hDV, hSV⟩ := id hN
    rw [Cn_0] at hcb ⊢
    obtain ⟨g, hrk⟩ := rk_sp (E := E) (lo := lo) (d := d) (by omega) hN hlN
    obtain ⟨I1, eI1⟩ : ∃ I1, I1 = sA (sA I (lo + 84 + 17) g) (lo + 84 + 16) (duX S L T (I (lo + 84 + 14)) (I (lo + 84 + 15)) (I (lo + 84 + 16)) (S 0 3)) := ⟨_, rfl⟩
    rw [← eI1] at hrk
    have i1 : ∀ a, a ≠ lo + 84 + 16 → a ≠ lo + 84 + 17 → I1 a = I a := fun a q1 q2 => by rw [eI1, sA_n q1, sA_n q2]
    have hN1 : NC μ (u3 I1 (lo + 102) 5 (c0 + 1)) (lo + 84) s l t S L T := NC_fr hN (fun a _ _ => by rw [u3_c (by omega), i1 a (by omega) (by omega)]) (fun a _ _ => by rw [u3_c (by omega), i1 a (by omega) (by omega)]) (fun a _ _ => by rw [u3_c (by omega), i1 a (by omega) (by omega)]) (by rw [u3_c (by omega), i1 _ (by omega) (by omega)]) (by rw [u3_c (by omega), i1 _ (by omega) (by omega)])
    have hda := da_sp (E := E) (lo := lo) (d := d) (by omega) hN1 hlN
    have hso : SIo S (I (lo + 84 + 15)) := by rw [hsi]; exact hSo
    have eG : sm (u3 I1 (lo + 102) 5 (c0 + 1) (lo + 84 + 16)) (S 0 3) = G9 S L T si := sm_congr _ _ (fun j q1 q2 => by
      rw [u3_c (by omega), eI1, sA_s]
      unfold duX
      rw [if_pos ⟨q1, q2⟩, due_link hV hZ hDT hso ⟨q1, q2⟩, hsi])
    rw [eG] at hda
    have gb := G9_b (L := L) (T := T) hV hLV hTV hSo
    obtain ⟨G, eGG⟩ : ∃ G, G = G9 S L T si := ⟨_, rfl⟩
    rw [← eGG] at hda gb
    have i5 : I1 (lo + 102) 5 = c0 := by rw [i1 _ (by omega) (by omega)]; exact hc0
    have i2 : I1 (lo + 102) 2 = b0 := by rw [i1 _ (by omega) (by omega)]; exact hb0
    have i2' : u3 I1 (lo + 102) 5 (c0 + 1) (lo + 102) 2 = b0 := by rw [u3_n (by omega)]; exact i2
    have i3 : I s 3 = S 0 3 := by rw [vS_0 hS]
    have hSh := hS.1
    refine ⟨u3 (u3 I1 (lo + 102) 5 (c0 + 1)) (lo + 102) 2 (if G < b0 then G else b0), if G < b0 then G else b0, ?_, fun a q1 q2 q3 q4 => ?_, ?_, ?_, ?_, ?_, ?_, ?_, ?_⟩
    · simp (disch := omega) only [b43_0, b43_26, b43_30, b43_40, b43_49, b43_55, e43, gO_P hP, gR_P4 hP, gR_P6 hP, gR_P7 hP, gR_P8 hP, gR_P9 hP, gR_P10 hP, al_P14 hP, al_P15 hP, al_P16 hP, al_P17 hP, al_P18 hP, al_P19 hP, rd_P14 hP, rd_P15 hP, rd_P16 hP, rd_P17 hP, rd_P18 hP, rd_P19 hP, gP_P hP hlP, wr_P14 hP hlP, wr_P15 hP hlP, wr_P16 hP hlP, wr_P17 hP hlP, wr_P18 hP hlP, wr_P19 hP hlP, gR_k p0, gO_N hNi, gR_N3 hNi, gR_N4 hNi, gR_N5 hNi, gR_N6 hNi, al_N14 hNi, al_N15 hNi, al_N16 hNi, al_N17 hNi, rd_N14 hNi, rd_N15 hNi, rd_N16 hNi, rd_N17 hNi, gR_k h0, gO_S hSh, gR_S2 hSh, gR_S4 hSh, gR_S5 hSh, gR_S6 hSh, gR_S7 hSh, gR_S8 hSh, gR_S9 hSh, gR_S10 hSh, gR_S11 hSh, gR_S12 hSh, gR_S14 hSh, gR_S15 hSh, al_S1 hSh, al_S2 hSh, al_S3 hSh, al_S4 hSh, al_S5 hSh, al_S6 hSh, al_S7 hSh, al_S8 hSh, al_S9 hSh, al_S10 hSh, al_S11 hSh, al_S12 hSh, rd_S1 hSh, rd_S2 hSh, rd_S3 hSh, rd_S4 hSh, rd_S5 hSh, rd_S6 hSh, rd_S7 hSh, rd_S8 hSh, rd_S9 hSh, rd_S10 hSh, rd_S11 hSh, rd_S12 hSh, i3, hrk, i5, hda, i2', Jl0, Jl1, Jl2, Jl3, Jl4, Jl5, Jl6, Jl7, Jl8, Jl9, Jl10, Jl11, Jl12, Jl13, Jl14, Jl15, Jl16, Jl17, Jl18, Jl19, Jl20, Jl22, Jl24, Jl28, Jl30, Jl31, Jl32, Jl35, Jl36, Jl37, Jl38, Jl39, Jl40, Jl48, Jl57, Jl59, Jl60, Jl61, Jl63, Jl64, Jl68, Jl69, Jl96, Jl97, Jl98, Jl99, Jl100, Jl122, Jl149, Jl150, Jl165, Jl255, Jl511, Jl512, Jl600, Jl610, Jl940, Jl968, Jl999, Jl1134, Jl1152, Jl2048, Jl4608, Jl9999, Jl99999, Jl100000, Jl147456, Jl12345, Jl1103515245, Jl100000000, Jlm1, Jlm2, J_add, J_sub, J_mul, J_lt, J_le, J_eq, J_ite, J_cl, ri_j, wi_j, b2i_z, b2i_o, b2i_zo, Int.cast_ofNat_Int, Int.natCast_zero, Int.natCast_one, if_true, if_false, ite_self, Int.le_refl, J_bit, J_or, J_neg, J_oN, Int.reduceEq, Int.reduceLT, Int.reduceLE, Int.reduceNeg, Int.reduceAdd, Int.reduceSub, Int.reduceMul, Int.reduceToNat, J_shl, J_shr, V_ite, true_or, or_true, nz_j, J_div, J_rem, Option.bind_some, Option.toList_some, Option.toList_none, List.cons_append, List.nil_append, Jl21, Jl23, Jl25, Jl74, Jl83, Jl288, Jl324, Jl1800, Jlm8]
      repeat (first | rw [if_neg (by omega)] | rw [if_pos (by omega)])
    · rw [u3_c q4, u3_c q4, i1 a q2 q3]
    · rw [u3_c (by omega), u3_c (by omega), i1 _ (by omega) (by omega)]; exact hsi
    · rw [u3_n (by omega), u3_s]
    · rw [u3_s]
    · split <;> omega
    · split <;> omega
    · intro c q1 q2 _ _
      have e : G9 S L T (ovS S si 0 c) = G := by
        rw [eGG]
        exact G9_c (fun j z1 z2 => by unfold ovS; rw [if_neg (by omega)])
      rw [e]
      split <;> omega
    · by_cases c : G < b0
      · right
        refine ⟨0, by omega, by show (0 : Int) < 1; omega, trivial, rfl, ?_⟩
        rw [if_pos c, eGG]
        exact G9_c (fun j z1 z2 => by unfold ovS; rw [if_neg (by omega)])
      · left
        rw [if_neg c]
  | succ m ih =>
    intro d k met c0 b0 si I hd hk hk0 hN hDT hsi hneg hSo hmet hc0 hcb hb0 hbb
    obtain ⟨d, rfl⟩ : ∃ e, d = e + 1 := ⟨d - 1, by omega⟩
    obtain ⟨_, h0, h1, h2, hS, _, hL, hLV, hT, hTV, hA, hDV, hSV⟩ := id hN
    have hSh := hS.1
    have hk' : S 0 3 - ((m : Int) + 1) = k := by omega
    have vk := hV.2.2.1 k hk0 (by omega)
    have sk : si k = -1 := hneg k (Int.le_refl _) (by omega)
    have i3 : I s 3 = S 0 3 := by rw [vS_0 hS]
    have cb1 := Cn_b (S := S) (m := m) (met := met)
    have hle : Cn S m met ≤ Cn S (m + 1) met := by
      by_cases cr : S 2 k = 3
      · rw [Cn_r hV (by omega) hk' cr]
        have s0 := sm_mo (fun j => if okJ S k met j = true then Cn S m (so met (p2 j)) else 0) (a := 0) (n := S 0 3) (by omega) (fun i _ _ => by
          split
          · exact Cn_b
          · omega)
        rw [sm_0] at s0
        omega
      · rw [Cn_n hk' cr]; omega
    obtain ⟨I1, b1, e1, r1, r2, r3, r4, r5, r6⟩ := ih d (k + 1) met c0 b0 si I (by omega) (by omega) (by omega) hN hDT hsi (fun i q1 q2 => hneg i (by omega) q2) hSo hmet hc0 (by omega) hb0 hbb
    have st1 : cl E lo (d + 1) 43 [.ref (lo + 102), .int (J k), .int (J met)] (mj μ I) = ex PG E lo d 43 64 [some (.ref ((lo + 102))), some (.int (J (k))), some (.int (J (met))), some (.ref ((lo + 84))), some (.ref s), none, none] [] (mj μ I1) := by
      simp (disch := omega) only [b43_0, b43_20, b43_56, e43, gO_P hP, gR_P4 hP, gR_P6 hP, gR_P7 hP, gR_P8 hP, gR_P9 hP, gR_P10 hP, al_P14 hP, al_P15 hP, al_P16 hP, al_P17 hP, al_P18 hP, al_P19 hP, rd_P14 hP, rd_P15 hP, rd_P16 hP, rd_P17 hP, rd_P18 hP, rd_P19 hP, gR_k p0, gO_N hNi, gR_N3 hNi, gR_N4 hNi, gR_N5 hNi, gR_N6 hNi, al_N14 hNi, al_N15 hNi, al_N16 hNi, al_N17 hNi, rd_N14 hNi, rd_N15 hNi, rd_N16 hNi, rd_N17 hNi, gR_k h0, gO_S hSh, gR_S2 hSh, gR_S4 hSh, gR_S5 hSh, gR_S6 hSh, gR_S7 hSh, gR_S8 hSh, gR_S9 hSh, gR_S10 hSh, gR_S11 hSh, gR_S12 hSh, gR_S14 hSh, gR_S15 hSh, al_S1 hSh, al_S2 hSh, al_S3 hSh, al_S4 hSh, al_S5 hSh, al_S6 hSh, al_S7 hSh, al_S8 hSh, al_S9 hSh, al_S10 hSh, al_S11 hSh, al_S12 hSh, rd_S1 hSh, rd_S2 hSh, rd_S3 hSh, rd_S4 hSh, rd_S5 hSh, rd_S6 hSh, rd_S7 hSh, rd_S8 hSh, rd_S9 hSh, rd_S10 hSh, rd_S11 hSh, rd_S12 hSh, i3, e1, Jl0, Jl1, Jl2, Jl3, Jl4, Jl5, Jl6, Jl7, Jl8, Jl9, Jl10, Jl11, Jl12, Jl13, Jl14, Jl15, Jl16, Jl17, Jl18, Jl19, Jl20, Jl22, Jl24, Jl28, Jl30, Jl31, Jl32, Jl35, Jl36, Jl37, Jl38, Jl39, Jl40, Jl48, Jl57, Jl59, Jl60, Jl61, Jl63, Jl64, Jl68, Jl69, Jl96, Jl97, Jl98, Jl99, Jl100, Jl122, Jl149, Jl150, Jl165, Jl255, Jl511, Jl512, Jl600, Jl610, Jl940, Jl968, Jl999, Jl1134, Jl1152, Jl2048, Jl4608, Jl9999, Jl99999, Jl100000, Jl147456, Jl12345, Jl1103515245, Jl100000000, Jlm1, Jlm2, J_add, J_sub, J_mul, J_lt, J_le, J_eq, J_ite, J_cl, ri_j, wi_j, b2i_z, b2i_o, b2i_zo, Int.cast_ofNat_Int, Int.natCast_zero, Int.natCast_one, if_true, if_false, ite_self, Int.le_refl, J_bit, J_or, J_neg, J_oN, Int.reduceEq, Int.reduceLT, Int.reduceLE, Int.reduceNeg, Int.reduceAdd, Int.reduceSub, Int.reduceMul, Int.reduceToNat, J_shl, J_shr, V_ite, true_or, or_true, nz_j, J_div, J_rem, Option.bind_some, Option.toList_some, Option.toList_none, List.cons_append, List.nil_append, Jl21, Jl23, Jl25, Jl74, Jl83, Jl288, Jl324, Jl1800, Jlm8]
      repeat (first | rw [if_neg (by omega)] | rw [if_pos (by omega)])
    rw [st1]
    have hS1 : AtS μ I1 s S := hS.fr (fun a _ _ => r1 a (by omega) (by omega) (by omega) (by omega))
    by_cases cr : S 2 k = 3
    · have er : rqM S (m + 1) = rqM S m + 1 := by
        show rqM S m + (if S 2 (S 0 3 - (m + 1)) = 3 then 1 else 0) = _
        rw [hk', if_pos cr]
      have rq0 := (rqM_h (S := S) m (by omega)).2.1
      have M0 : Mn S L T (m + 1) met si (fun c => False ∨ c % 10 = 9) b0 b1 := Mn_step er rq0 ⟨Int.le_refl _, fun c _ _ q => q.elim, Or.inl rfl⟩ r6 (by omega) (fun c q1 q2 => ⟨by rw [stR_r hk' cr (by omega), if_pos rfl], ov_r hk' cr (by omega) (by rw [if_pos rfl]; exact sk) (fun j _ => rfl)⟩)
      obtain ⟨⟨I3, b3, xk, q6⟩, e3, f1, f2, f3, f4, f5, f6⟩ := loop (fun j (t : (Nat → Int → Int) × Int × Int × Option Value) => ex PG E lo d 43 79 [some (.ref ((lo + 102))), some (.int (J (k))), some (.int (J (met))), some (.ref ((lo + 84))), some (.ref s), some (.int (J (j))), t.2.2.2] [] (mj μ t.1)) (fun j t => (∀ a, a ≠ lo + 84 + 15 → a ≠ lo + 84 + 16 → a ≠ lo + 84 + 17 → a ≠ lo + 102 → t.1 a = I a) ∧ t.1 (lo + 84 + 15) = u1 si k t.2.2.1 ∧ t.1 (lo + 102) 5 = c0 + Cn S m met + sm (fun j => if okJ S k met j = true then Cn S m (so met (p2 j)) else 0) j ∧ t.1 (lo + 102) 2 = t.2.1 ∧ (0 ≤ t.2.1 ∧ t.2.1 ≤ 100000000) ∧ Mn S L T (m + 1) met si (fun c => c % 10 = 9 ∨ c % 10 < j) b0 t.2.1) (a := 0) (n := S 0 3) (fun j st g1 g2 hQ => by
        obtain ⟨I4, b4, x4, q6⟩ := st
        dsimp only at hQ ⊢
        obtain ⟨f1, f2, f3, f4, f5, f6⟩ := hQ
        have hS4 : AtS μ I4 s S := hS.fr (fun a _ _ => f1 a (by omega) (by omega) (by omega) (by omega))
        have vj := hV.2.2.1 j g1 g2
        rw [sm_s _ g1]
        have hmy : ∀ q, ex PG E lo d 43 79 [some (.ref ((lo + 102))), some (.int (J (k))), some (.int (J (met))), some (.ref ((lo + 84))), some (.ref s), some (.int (J (j))), q] [] (mj μ I4) = ex PG E lo d 43 123 [some (.ref ((lo + 102))), some (.int (J (k))), some (.int (J (met))), some (.ref ((lo + 84))), some (.ref s), some (.int (J (j))), q] [.int (J ((b2i (myQ S k j))))] (mj μ I4) := fun q => by
          rw [b43_79]
          by_cases c1 : S 2 j = 0
          · by_cases c2 : S 3 j = S 3 k
            · rw [show myQ S k j = true from by unfold myQ; exact decide_eq_true ⟨g2, c1, c2⟩]
              simp (disch := omega) only [b43_89, b43_100, b43_118, gO_S hS4.1, gR_S2 hS4.1, gR_S4 hS4.1, gR_S5 hS4.1, gR_S6 hS4.1, gR_S7 hS4.1, gR_S8 hS4.1, gR_S9 hS4.1, gR_S10 hS4.1, gR_S11 hS4.1, gR_S12 hS4.1, gR_S14 hS4.1, gR_S15 hS4.1, al_S1 hS4.1, al_S2 hS4.1, al_S3 hS4.1, al_S4 hS4.1, al_S5 hS4.1, al_S6 hS4.1, al_S7 hS4.1, al_S8 hS4.1, al_S9 hS4.1, al_S10 hS4.1, al_S11 hS4.1, al_S12 hS4.1, rd_S1 hS4.1, rd_S2 hS4.1, rd_S3 hS4.1, rd_S4 hS4.1, rd_S5 hS4.1, rd_S6 hS4.1, rd_S7 hS4.1, rd_S8 hS4.1, rd_S9 hS4.1, rd_S10 hS4.1, rd_S11 hS4.1, rd_S12 hS4.1, vS_0 hS4, vS_1 hS4, vS_2 hS4, vS_3 hS4, vS_4 hS4, vS_5 hS4, vS_6 hS4, vS_7 hS4, vS_8 hS4, vS_9 hS4, vS_10 hS4, vS_11 hS4, vS_12 hS4, c1, c2, b2i_t, Jl0, Jl1, Jl2, Jl3, Jl4, Jl5, Jl6, Jl7, Jl8, Jl9, Jl10, Jl11, Jl12, Jl13, Jl14, Jl15, Jl16, Jl17, Jl18, Jl19, Jl20, Jl22, Jl24, Jl28, Jl30, Jl31, Jl32, Jl35, Jl36, Jl37, Jl38, Jl39, Jl40, Jl48, Jl57, Jl59, Jl60, Jl61, Jl63, Jl64, Jl68, Jl69, Jl96, Jl97, Jl98, Jl99, Jl100, Jl122, Jl149, Jl150, Jl165, Jl255, Jl511, Jl512, Jl600, Jl610, Jl940, Jl968, Jl999, Jl1134, Jl1152, Jl2048, Jl4608, Jl9999, Jl99999, Jl100000, Jl147456, Jl12345, Jl1103515245, Jl100000000, Jlm1, Jlm2, J_add, J_sub, J_mul, J_lt, J_le, J_eq, J_ite, J_cl, ri_j, wi_j, b2i_z, b2i_o, b2i_zo, Int.cast_ofNat_Int, Int.natCast_zero, Int.natCast_one, if_true, if_false, ite_self, Int.le_refl, J_bit, J_or, J_neg, J_oN, Int.reduceEq, Int.reduceLT, Int.reduceLE, Int.reduceNeg, Int.reduceAdd, Int.reduceSub, Int.reduceMul, Int.reduceToNat, J_shl, J_shr, V_ite, true_or, or_true, nz_j, J_div, J_rem, Option.bind_some, Option.toList_some, Option.toList_none, List.cons_append, List.nil_append, Jl21, Jl23, Jl25, Jl74, Jl83, Jl288, Jl324, Jl1800, Jlm8]
              repeat (first | rw [if_neg (by omega)] | rw [if_pos (by omega)])
            · rw [show myQ S k j = false from by unfold myQ; exact decide_eq_false (fun z => c2 z.2.2)]
              simp (disch := omega) only [b43_89, b43_100, b43_122, gO_S hS4.1, gR_S2 hS4.1, gR_S4 hS4.1, gR_S5 hS4.1, gR_S6 hS4.1, gR_S7 hS4.1, gR_S8 hS4.1, gR_S9 hS4.1, gR_S10 hS4.1, gR_S11 hS4.1, gR_S12 hS4.1, gR_S14 hS4.1, gR_S15 hS4.1, al_S1 hS4.1, al_S2 hS4.1, al_S3 hS4.1, al_S4 hS4.1, al_S5 hS4.1, al_S6 hS4.1, al_S7 hS4.1, al_S8 hS4.1, al_S9 hS4.1, al_S10 hS4.1, al_S11 hS4.1, al_S12 hS4.1, rd_S1 hS4.1, rd_S2 hS4.1, rd_S3 hS4.1, rd_S4 hS4.1, rd_S5 hS4.1, rd_S6 hS4.1, rd_S7 hS4.1, rd_S8 hS4.1, rd_S9 hS4.1, rd_S10 hS4.1, rd_S11 hS4.1, rd_S12 hS4.1, vS_0 hS4, vS_1 hS4, vS_2 hS4, vS_3 hS4, vS_4 hS4, vS_5 hS4, vS_6 hS4, vS_7 hS4, vS_8 hS4, vS_9 hS4, vS_10 hS4, vS_11 hS4, vS_12 hS4, c1, b2i_f, Jl0, Jl1, Jl2, Jl3, Jl4, Jl5, Jl6, Jl7, Jl8, Jl9, Jl10, Jl11, Jl12, Jl13, Jl14, Jl15, Jl16, Jl17, Jl18, Jl19, Jl20, Jl22, Jl24, Jl28, Jl30, Jl31, Jl32, Jl35, Jl36, Jl37, Jl38, Jl39, Jl40, Jl48, Jl57, Jl59, Jl60, Jl61, Jl63, Jl64, Jl68, Jl69, Jl96, Jl97, Jl98, Jl99, Jl100, Jl122, Jl149, Jl150, Jl165, Jl255, Jl511, Jl512, Jl600, Jl610, Jl940, Jl968, Jl999, Jl1134, Jl1152, Jl2048, Jl4608, Jl9999, Jl99999, Jl100000, Jl147456, Jl12345, Jl1103515245, Jl100000000, Jlm1, Jlm2, J_add, J_sub, J_mul, J_lt, J_le, J_eq, J_ite, J_cl, ri_j, wi_j, b2i_z, b2i_o, b2i_zo, Int.cast_ofNat_Int, Int.natCast_zero, Int.natCast_one, if_true, if_false, ite_self, Int.le_refl, J_bit, J_or, J_neg, J_oN, Int.reduceEq, Int.reduceLT, Int.reduceLE, Int.reduceNeg, Int.reduceAdd, Int.reduceSub, Int.reduceMul, Int.reduceToNat, J_shl, J_shr, V_ite, true_or, or_true, nz_j, J_div, J_rem, Option.bind_some, Option.toList_some, Option.toList_none, List.cons_append, List.nil_append, Jl21, Jl23, Jl25, Jl74, Jl83, Jl288, Jl324, Jl1800, Jlm8]
              repeat (first | rw [if_neg (by omega)] | rw [if_pos (by omega)])
          · rw [show myQ S k j = false from by unfold myQ; exact decide_eq_false (fun z => c1 z.2.1)]
            simp (disch := omega) only [b43_89, b43_122, gO_S hS4.1, gR_S2 hS4.1, gR_S4 hS4.1, gR_S5 hS4.1, gR_S6 hS4.1, gR_S7 hS4.1, gR_S8 hS4.1, gR_S9 hS4.1, gR_S10 hS4.1, gR_S11 hS4.1, gR_S12 hS4.1, gR_S14 hS4.1, gR_S15 hS4.1, al_S1 hS4.1, al_S2 hS4.1, al_S3 hS4.1, al_S4 hS4.1, al_S5 hS4.1, al_S6 hS4.1, al_S7 hS4.1, al_S8 hS4.1, al_S9 hS4.1, al_S10 hS4.1, al_S11 hS4.1, al_S12 hS4.1, rd_S1 hS4.1, rd_S2 hS4.1, rd_S3 hS4.1, rd_S4 hS4.1, rd_S5 hS4.1, rd_S6 hS4.1, rd_S7 hS4.1, rd_S8 hS4.1, rd_S9 hS4.1, rd_S10 hS4.1, rd_S11 hS4.1, rd_S12 hS4.1, vS_0 hS4, vS_1 hS4, vS_2 hS4, vS_3 hS4, vS_4 hS4, vS_5 hS4, vS_6 hS4, vS_7 hS4, vS_8 hS4, vS_9 hS4, vS_10 hS4, vS_11 hS4, vS_12 hS4, b2i_f, Jl0, Jl1, Jl2, Jl3, Jl4, Jl5, Jl6, Jl7, Jl8, Jl9, Jl10, Jl11, Jl12, Jl13, Jl14, Jl15, Jl16, Jl17, Jl18, Jl19, Jl20, Jl22, Jl24, Jl28, Jl30, Jl31, Jl32, Jl35, Jl36, Jl37, Jl38, Jl39, Jl40, Jl48, Jl57, Jl59, Jl60, Jl61, Jl63, Jl64, Jl68, Jl69, Jl96, Jl97, Jl98, Jl99, Jl100, Jl122, Jl149, Jl150, Jl165, Jl255, Jl511, Jl512, Jl600, Jl610, Jl940, Jl968, Jl999, Jl1134, Jl1152, Jl2048, Jl4608, Jl9999, Jl99999, Jl100000, Jl147456, Jl12345, Jl1103515245, Jl100000000, Jlm1, Jlm2, J_add, J_sub, J_mul, J_lt, J_le, J_eq, J_ite, J_cl, ri_j, wi_j, b2i_z, b2i_o, b2i_zo, Int.cast_ofNat_Int, Int.natCast_zero, Int.natCast_one, if_true, if_false, ite_self, Int.le_refl, J_bit, J_or, J_neg, J_oN, Int.reduceEq, Int.reduceLT, Int.reduceLE, Int.reduceNeg, Int.reduceAdd, Int.reduceSub, Int.reduceMul, Int.reduceToNat, J_shl, J_shr, V_ite, true_or, or_true, nz_j, J_div, J_rem, Option.bind_some, Option.toList_some, Option.toList_none, List.cons_append, List.nil_append, Jl21, Jl23, Jl25, Jl74, Jl83, Jl288, Jl324, Jl1800, Jlm8]
            repeat (first | rw [if_neg (by omega)] | rw [if_pos (by omega)])
        have skip : okJ S k met j = false → Mn S L T (m + 1) met si (fun c => c % 10 = 9 ∨ c % 10 < j + 1) b0 b4 := fun hok => Mn_P f6 (fun c z1 z2 z3 => by
          constructor
          · intro q; omega
          · intro q
            have : c % 10 ≠ j := fun z => by
              have e : c = c / 10 * 10 + j := by omega
              rw [e, stR_r hk' cr (by omega), if_neg (by omega), hok] at z3
              cases z3
            omega)
        rw [hmy]
        cases cmy : myQ S k j with
        | false =>
          have hok : okJ S k met j = false := by unfold okJ; rw [cmy, Bool.false_and]
          rw [hok, if_neg (by decide), Int.add_zero]
          refine ⟨(I4, b4, x4, some (.int (J 0))), ?_, f1, f2, f3, f4, f5, skip hok⟩
          simp (disch := omega) only [b43_123, b43_160, b2i_f, Jl0, Jl1, Jl2, Jl3, Jl4, Jl5, Jl6, Jl7, Jl8, Jl9, Jl10, Jl11, Jl12, Jl13, Jl14, Jl15, Jl16, Jl17, Jl18, Jl19, Jl20, Jl22, Jl24, Jl28, Jl30, Jl31, Jl32, Jl35, Jl36, Jl37, Jl38, Jl39, Jl40, Jl48, Jl57, Jl59, Jl60, Jl61, Jl63, Jl64, Jl68, Jl69, Jl96, Jl97, Jl98, Jl99, Jl100, Jl122, Jl149, Jl150, Jl165, Jl255, Jl511, Jl512, Jl600, Jl610, Jl940, Jl968, Jl999, Jl1134, Jl1152, Jl2048, Jl4608, Jl9999, Jl99999, Jl100000, Jl147456, Jl12345, Jl1103515245, Jl100000000, Jlm1, Jlm2, J_add, J_sub, J_mul, J_lt, J_le, J_eq, J_ite, J_cl, ri_j, wi_j, b2i_z, b2i_o, b2i_zo, Int.cast_ofNat_Int, Int.natCast_zero, Int.natCast_one, if_true, if_false, ite_self, Int.le_refl, J_bit, J_or, J_neg, J_oN, Int.reduceEq, Int.reduceLT, Int.reduceLE, Int.reduceNeg, Int.reduceAdd, Int.reduceSub, Int.reduceMul, Int.reduceToNat, J_shl, J_shr, V_ite, true_or, or_true, nz_j, J_div, J_rem, Option.bind_some, Option.toList_some, Option.toList_none, List.cons_append, List.nil_append, Jl21, Jl23, Jl25, Jl74, Jl83, Jl288, Jl324, Jl1800, Jlm8]
        | true =>
          cases ctb : tb met j with
          | true =>
            have hok : okJ S k met j = false := by unfold okJ; rw [cmy, ctb]; rfl
            rw [hok, if_neg (by decide), Int.add_zero]
            refine ⟨(I4, b4, x4, some (.int (J 1))), ?_, f1, f2, f3, f4, f5, skip hok⟩
            simp (disch := omega) only [b43_123, b43_130, b43_160, b2i_t, ctb, Bool.true_eq_false, Jl0, Jl1, Jl2, Jl3, Jl4, Jl5, Jl6, Jl7, Jl8, Jl9, Jl10, Jl11, Jl12, Jl13, Jl14, Jl15, Jl16, Jl17, Jl18, Jl19, Jl20, Jl22, Jl24, Jl28, Jl30, Jl31, Jl32, Jl35, Jl36, Jl37, Jl38, Jl39, Jl40, Jl48, Jl57, Jl59, Jl60, Jl61, Jl63, Jl64, Jl68, Jl69, Jl96, Jl97, Jl98, Jl99, Jl100, Jl122, Jl149, Jl150, Jl165, Jl255, Jl511, Jl512, Jl600, Jl610, Jl940, Jl968, Jl999, Jl1134, Jl1152, Jl2048, Jl4608, Jl9999, Jl99999, Jl100000, Jl147456, Jl12345, Jl1103515245, Jl100000000, Jlm1, Jlm2, J_add, J_sub, J_mul, J_lt, J_le, J_eq, J_ite, J_cl, ri_j, wi_j, b2i_z, b2i_o, b2i_zo, Int.cast_ofNat_Int, Int.natCast_zero, Int.natCast_one, if_true, if_false, ite_self, Int.le_refl, J_bit, J_or, J_neg, J_oN, Int.reduceEq, Int.reduceLT, Int.reduceLE, Int.reduceNeg, Int.reduceAdd, Int.reduceSub, Int.reduceMul, Int.reduceToNat, J_shl, J_shr, V_ite, true_or, or_true, nz_j, J_div, J_rem, Option.bind_some, Option.toList_some, Option.toList_none, List.cons_append, List.nil_append, Jl21, Jl23, Jl25, Jl74, Jl83, Jl288, Jl324, Jl1800, Jlm8]
          | false =>
            have hok : okJ S k met j = true := by unfold okJ; rw [cmy, ctb]; rfl
            rw [hok, if_pos rfl]
            have pj := p2_0 j
            have pj9 := p2_le (k := j + 1) (m := 9) (by omega)
            rw [p2_s g1, show p2 9 = 512 from by decide] at pj9
            have sob := so_p2 (s := met) (t := p2 j) (k := 9) (by rw [show p2 9 = 512 from by decide]; exact hmet) (by rw [show p2 9 = 512 from by decide]; omega)
            rw [show p2 9 = 512 from by decide] at sob
            have tot := sm_mo (fun j => if okJ S k met j = true then Cn S m (so met (p2 j)) else 0) (a := j + 1) (n := S 0 3) (by omega) (fun i _ _ => by
              split
              · exact Cn_b
              · omega)
            rw [sm_s _ g1, hok, if_pos rfl] at tot
            have hcr := Cn_r (met := met) hV (by omega) hk' cr
            have sp0 := sm_mo (fun j => if okJ S k met j = true then Cn S m (so met (p2 j)) else 0) (a := 0) (n := j) (by omega) (fun i _ _ => by
              split
              · exact Cn_b
              · omega)
            rw [sm_0] at sp0
            obtain ⟨I5, eI5⟩ : ∃ I5, I5 = sA I4 (lo + 84 + 15) (u1 si k j) := ⟨_, rfl⟩
            have c5 : ∀ a, a ≠ lo + 84 + 15 → I5 a = I4 a := fun a q => by rw [eI5, sA_n q]
            have hSo5 : SIo S (u1 si k j) := fun i z1 z2 => by
              by_cases c : i = k
              · rw [c, u1_s]; exact ⟨by omega, by omega, fun _ => cr⟩
              · rw [u1_n c]; exact hSo i z1 z2
            have hSV5 : SiV (I5 (lo + 84 + 15)) := by
              rw [eI5, sA_s]
              intro i z1 z2
              by_cases c : i = k
              · rw [c, u1_s]; omega
              · rw [u1_n c, ← hsi]; exact hSV i z1 z2
            have hN5 : NC μ I5 (lo + 84) s l t S L T := NC_fs hN (fun a _ _ => by rw [c5 a (by omega), f1 a (by omega) (by omega) (by omega) (by omega)]) (fun a _ _ => by rw [c5 a (by omega), f1 a (by omega) (by omega) (by omega) (by omega)]) (fun a _ _ => by rw [c5 a (by omega), f1 a (by omega) (by omega) (by omega) (by omega)]) (by rw [c5 _ (by omega), f1 _ (by omega) (by omega) (by omega) (by omega)]) hSV5
            obtain ⟨I6, b6, e6, w1, w2, w3, w4, w5, w6⟩ := ih d (k + 1) (so met (p2 j)) (I4 (lo + 102) 5) b4 (u1 si k j) I5 (by omega) (by omega) (by omega) hN5 (by rw [c5 _ (by omega), f1 _ (by omega) (by omega) (by omega) (by omega)]; exact hDT) (by rw [eI5, sA_s]) (fun i z1 z2 => by rw [u1_n (by omega)]; exact hneg i (by omega) z2) hSo5 sob (by rw [c5 _ (by omega)]) (by omega) (by rw [c5 _ (by omega)]; exact f4) f5
            refine ⟨(I6, b6, j, some (.int (J 1))), ?_, fun a z1 z2 z3 z4 => ?_, w2, ?_, w4, w5, ?_⟩
            · dsimp only
              have hwr : u3 I4 (lo + 84 + 15) k j = I5 := by rw [u3_sA, f2, u1_uu, eI5]
              simp (disch := omega) only [b43_123, b43_130, b43_139, b43_147, b43_160, gO_N hNi, gR_N3 hNi, gR_N4 hNi, gR_N5 hNi, gR_N6 hNi, al_N14 hNi, al_N15 hNi, al_N16 hNi, al_N17 hNi, rd_N14 hNi, rd_N15 hNi, rd_N16 hNi, rd_N17 hNi, gP_N hNi hlN, wr_N14 hNi hlN, wr_N15 hNi hlN, wr_N16 hNi hlN, wr_N17 hNi hlN, b2i_t, ctb, hwr, e6, Jl0, Jl1, Jl2, Jl3, Jl4, Jl5, Jl6, Jl7, Jl8, Jl9, Jl10, Jl11, Jl12, Jl13, Jl14, Jl15, Jl16, Jl17, Jl18, Jl19, Jl20, Jl22, Jl24, Jl28, Jl30, Jl31, Jl32, Jl35, Jl36, Jl37, Jl38, Jl39, Jl40, Jl48, Jl57, Jl59, Jl60, Jl61, Jl63, Jl64, Jl68, Jl69, Jl96, Jl97, Jl98, Jl99, Jl100, Jl122, Jl149, Jl150, Jl165, Jl255, Jl511, Jl512, Jl600, Jl610, Jl940, Jl968, Jl999, Jl1134, Jl1152, Jl2048, Jl4608, Jl9999, Jl99999, Jl100000, Jl147456, Jl12345, Jl1103515245, Jl100000000, Jlm1, Jlm2, J_add, J_sub, J_mul, J_lt, J_le, J_eq, J_ite, J_cl, ri_j, wi_j, b2i_z, b2i_o, b2i_zo, Int.cast_ofNat_Int, Int.natCast_zero, Int.natCast_one, if_true, if_false, ite_self, Int.le_refl, J_bit, J_or, J_neg, J_oN, Int.reduceEq, Int.reduceLT, Int.reduceLE, Int.reduceNeg, Int.reduceAdd, Int.reduceSub, Int.reduceMul, Int.reduceToNat, J_shl, J_shr, V_ite, true_or, or_true, nz_j, J_div, J_rem, Option.bind_some, Option.toList_some, Option.toList_none, List.cons_append, List.nil_append, Jl21, Jl23, Jl25, Jl74, Jl83, Jl288, Jl324, Jl1800, Jlm8]
            · dsimp only
              rw [w1 a z1 z2 z3 z4, c5 a z1]; exact f1 a z1 z2 z3 z4
            · dsimp only
              rw [w3, f3]
              omega
            · have hst := Mn_step (P := fun c => c % 10 = 9 ∨ c % 10 < j) er rq0 f6 w6 (dg := j) (by omega) (fun c z1 z2 => ⟨by rw [stR_r hk' cr (by omega), if_neg (by omega), hok, Bool.true_and], ov_r hk' cr (by omega) (by rw [if_neg (by omega), u1_s]) (fun i z => u1_n z)⟩)
              exact Mn_P hst (fun c z1 z2 z3 => by constructor <;> intro q <;> omega)) (by omega) (I1, b1, -1, none) ⟨r1, by dsimp only; rw [r2, u1_idv sk], by dsimp only; rw [r3, sm_0]; omega, r4, r5, Mn_P M0 (fun c z1 z2 z3 => ⟨fun q => q.elim (fun z => z.elim) Or.inl, fun q => q.elim Or.inr (fun z => by omega)⟩)⟩
      dsimp only at e3 f1 f2 f3 f4 f5 f6
      have hS3 : AtS μ I3 s S := hS.fr (fun a _ _ => f1 a (by omega) (by omega) (by omega) (by omega))
      have hwr : u3 I3 (lo + 84 + 15) k (-1) = sA I3 (lo + 84 + 15) si := by rw [u3_sA, f2, u1_uu, u1_idv sk]
      refine ⟨sA I3 (lo + 84 + 15) si, b3, ?_, fun a z1 z2 z3 z4 => by rw [sA_n z1]; exact f1 a z1 z2 z3 z4, sA_s, ?_, by rw [sA_n (by omega)]; exact f4, f5, ?_⟩
      · have st2 : ex PG E lo d 43 64 [some (.ref ((lo + 102))), some (.int (J (k))), some (.int (J (met))), some (.ref ((lo + 84))), some (.ref s), none, none] [] (mj μ I1) = ex PG E lo d 43 79 [some (.ref ((lo + 102))), some (.int (J (k))), some (.int (J (met))), some (.ref ((lo + 84))), some (.ref s), some (.int (J (0))), none] [] (mj μ I1) := by
          simp (disch := omega) only [b43_64, b43_76, gO_S hS1.1, gR_S2 hS1.1, gR_S4 hS1.1, gR_S5 hS1.1, gR_S6 hS1.1, gR_S7 hS1.1, gR_S8 hS1.1, gR_S9 hS1.1, gR_S10 hS1.1, gR_S11 hS1.1, gR_S12 hS1.1, gR_S14 hS1.1, gR_S15 hS1.1, al_S1 hS1.1, al_S2 hS1.1, al_S3 hS1.1, al_S4 hS1.1, al_S5 hS1.1, al_S6 hS1.1, al_S7 hS1.1, al_S8 hS1.1, al_S9 hS1.1, al_S10 hS1.1, al_S11 hS1.1, al_S12 hS1.1, rd_S1 hS1.1, rd_S2 hS1.1, rd_S3 hS1.1, rd_S4 hS1.1, rd_S5 hS1.1, rd_S6 hS1.1, rd_S7 hS1.1, rd_S8 hS1.1, rd_S9 hS1.1, rd_S10 hS1.1, rd_S11 hS1.1, rd_S12 hS1.1, vS_0 hS1, vS_1 hS1, vS_2 hS1, vS_3 hS1, vS_4 hS1, vS_5 hS1, vS_6 hS1, vS_7 hS1, vS_8 hS1, vS_9 hS1, vS_10 hS1, vS_11 hS1, vS_12 hS1, cr, Jl0, Jl1, Jl2, Jl3, Jl4, Jl5, Jl6, Jl7, Jl8, Jl9, Jl10, Jl11, Jl12, Jl13, Jl14, Jl15, Jl16, Jl17, Jl18, Jl19, Jl20, Jl22, Jl24, Jl28, Jl30, Jl31, Jl32, Jl35, Jl36, Jl37, Jl38, Jl39, Jl40, Jl48, Jl57, Jl59, Jl60, Jl61, Jl63, Jl64, Jl68, Jl69, Jl96, Jl97, Jl98, Jl99, Jl100, Jl122, Jl149, Jl150, Jl165, Jl255, Jl511, Jl512, Jl600, Jl610, Jl940, Jl968, Jl999, Jl1134, Jl1152, Jl2048, Jl4608, Jl9999, Jl99999, Jl100000, Jl147456, Jl12345, Jl1103515245, Jl100000000, Jlm1, Jlm2, J_add, J_sub, J_mul, J_lt, J_le, J_eq, J_ite, J_cl, ri_j, wi_j, b2i_z, b2i_o, b2i_zo, Int.cast_ofNat_Int, Int.natCast_zero, Int.natCast_one, if_true, if_false, ite_self, Int.le_refl, J_bit, J_or, J_neg, J_oN, Int.reduceEq, Int.reduceLT, Int.reduceLE, Int.reduceNeg, Int.reduceAdd, Int.reduceSub, Int.reduceMul, Int.reduceToNat, J_shl, J_shr, V_ite, true_or, or_true, nz_j, J_div, J_rem, Option.bind_some, Option.toList_some, Option.toList_none, List.cons_append, List.nil_append, Jl21, Jl23, Jl25, Jl74, Jl83, Jl288, Jl324, Jl1800, Jlm8]
        rw [st2, e3, b43_79]
        simp (disch := omega) only [b43_166, b43_173, gO_S hS3.1, gR_S2 hS3.1, gR_S4 hS3.1, gR_S5 hS3.1, gR_S6 hS3.1, gR_S7 hS3.1, gR_S8 hS3.1, gR_S9 hS3.1, gR_S10 hS3.1, gR_S11 hS3.1, gR_S12 hS3.1, gR_S14 hS3.1, gR_S15 hS3.1, al_S1 hS3.1, al_S2 hS3.1, al_S3 hS3.1, al_S4 hS3.1, al_S5 hS3.1, al_S6 hS3.1, al_S7 hS3.1, al_S8 hS3.1, al_S9 hS3.1, al_S10 hS3.1, al_S11 hS3.1, al_S12 hS3.1, rd_S1 hS3.1, rd_S2 hS3.1, rd_S3 hS3.1, rd_S4 hS3.1, rd_S5 hS3.1, rd_S6 hS3.1, rd_S7 hS3.1, rd_S8 hS3.1, rd_S9 hS3.1, rd_S10 hS3.1, rd_S11 hS3.1, rd_S12 hS3.1, vS_0 hS3, vS_1 hS3, vS_2 hS3, vS_3 hS3, vS_4 hS3, vS_5 hS3, vS_6 hS3, vS_7 hS3, vS_8 hS3, vS_9 hS3, vS_10 hS3, vS_11 hS3, vS_12 hS3, gO_N hNi, gR_N3 hNi, gR_N4 hNi, gR_N5 hNi, gR_N6 hNi, al_N14 hNi, al_N15 hNi, al_N16 hNi, al_N17 hNi, rd_N14 hNi, rd_N15 hNi, rd_N16 hNi, rd_N17 hNi, gP_N hNi hlN, wr_N14 hNi hlN, wr_N15 hNi hlN, wr_N16 hNi hlN, wr_N17 hNi hlN, hwr, Jl0, Jl1, Jl2, Jl3, Jl4, Jl5, Jl6, Jl7, Jl8, Jl9, Jl10, Jl11, Jl12, Jl13, Jl14, Jl15, Jl16, Jl17, Jl18, Jl19, Jl20, Jl22, Jl24, Jl28, Jl30, Jl31, Jl32, Jl35, Jl36, Jl37, Jl38, Jl39, Jl40, Jl48, Jl57, Jl59, Jl60, Jl61, Jl63, Jl64, Jl68, Jl69, Jl96, Jl97, Jl98, Jl99, Jl100, Jl122, Jl149, Jl150, Jl165, Jl255, Jl511, Jl512, Jl600, Jl610, Jl940, Jl968, Jl999, Jl1134, Jl1152, Jl2048, Jl4608, Jl9999, Jl99999, Jl100000, Jl147456, Jl12345, Jl1103515245, Jl100000000, Jlm1, Jlm2, J_add, J_sub, J_mul, J_lt, J_le, J_eq, J_ite, J_cl, ri_j, wi_j, b2i_z, b2i_o, b2i_zo, Int.cast_ofNat_Int, Int.natCast_zero, Int.natCast_one, if_true, if_false, ite_self, Int.le_refl, J_bit, J_or, J_neg, J_oN, Int.reduceEq, Int.reduceLT, Int.reduceLE, Int.reduceNeg, Int.reduceAdd, Int.reduceSub, Int.reduceMul, Int.reduceToNat, J_shl, J_shr, V_ite, true_or, or_true, nz_j, J_div, J_rem, Option.bind_some, Option.toList_some, Option.toList_none, List.cons_append, List.nil_append, Jl21, Jl23, Jl25, Jl74, Jl83, Jl288, Jl324, Jl1800, Jlm8]
      · rw [sA_n (by omega), f3, Cn_r hV (by omega) hk' cr]
        omega
      · refine Mn_P f6 (fun c z1 z2 z3 => ⟨fun _ => trivial, fun _ => ?_⟩)
        by_cases c9 : c % 10 = 9
        · exact Or.inl c9
        · right
          have e : c = c / 10 * 10 + c % 10 := by omega
          rw [e, stR_r hk' cr (by omega), if_neg c9, Bool.and_eq_true] at z3
          have z4 := z3.1
          unfold okJ myQ at z4
          rw [Bool.and_eq_true, decide_eq_true_eq] at z4
          exact z4.1.1
    · refine ⟨I1, b1, ?_, r1, r2, by rw [Cn_n hk' cr]; exact r3, r4, r5, r6.1, fun c q1 q2 _ q4 => ?_, ?_⟩
      · simp (disch := omega) only [b43_64, b43_75, gO_S hS1.1, gR_S2 hS1.1, gR_S4 hS1.1, gR_S5 hS1.1, gR_S6 hS1.1, gR_S7 hS1.1, gR_S8 hS1.1, gR_S9 hS1.1, gR_S10 hS1.1, gR_S11 hS1.1, gR_S12 hS1.1, gR_S14 hS1.1, gR_S15 hS1.1, al_S1 hS1.1, al_S2 hS1.1, al_S3 hS1.1, al_S4 hS1.1, al_S5 hS1.1, al_S6 hS1.1, al_S7 hS1.1, al_S8 hS1.1, al_S9 hS1.1, al_S10 hS1.1, al_S11 hS1.1, al_S12 hS1.1, rd_S1 hS1.1, rd_S2 hS1.1, rd_S3 hS1.1, rd_S4 hS1.1, rd_S5 hS1.1, rd_S6 hS1.1, rd_S7 hS1.1, rd_S8 hS1.1, rd_S9 hS1.1, rd_S10 hS1.1, rd_S11 hS1.1, rd_S12 hS1.1, vS_0 hS1, vS_1 hS1, vS_2 hS1, vS_3 hS1, vS_4 hS1, vS_5 hS1, vS_6 hS1, vS_7 hS1, vS_8 hS1, vS_9 hS1, vS_10 hS1, vS_11 hS1, vS_12 hS1, Jl0, Jl1, Jl2, Jl3, Jl4, Jl5, Jl6, Jl7, Jl8, Jl9, Jl10, Jl11, Jl12, Jl13, Jl14, Jl15, Jl16, Jl17, Jl18, Jl19, Jl20, Jl22, Jl24, Jl28, Jl30, Jl31, Jl32, Jl35, Jl36, Jl37, Jl38, Jl39, Jl40, Jl48, Jl57, Jl59, Jl60, Jl61, Jl63, Jl64, Jl68, Jl69, Jl96, Jl97, Jl98, Jl99, Jl100, Jl122, Jl149, Jl150, Jl165, Jl255, Jl511, Jl512, Jl600, Jl610, Jl940, Jl968, Jl999, Jl1134, Jl1152, Jl2048, Jl4608, Jl9999, Jl99999, Jl100000, Jl147456, Jl12345, Jl1103515245, Jl100000000, Jlm1, Jlm2, J_add, J_sub, J_mul, J_lt, J_le, J_eq, J_ite, J_cl, ri_j, wi_j, b2i_z, b2i_o, b2i_zo, Int.cast_ofNat_Int, Int.natCast_zero, Int.natCast_one, if_true, if_false, ite_self, Int.le_refl, J_bit, J_or, J_neg, J_oN, Int.reduceEq, Int.reduceLT, Int.reduceLE, Int.reduceNeg, Int.reduceAdd, Int.reduceSub, Int.reduceMul, Int.reduceToNat, J_shl, J_shr, V_ite, true_or, or_true, nz_j, J_div, J_rem, Option.bind_some, Option.toList_some, Option.toList_none, List.cons_append, List.nil_append, Jl21, Jl23, Jl25, Jl74, Jl83, Jl288, Jl324, Jl1800, Jlm8]
        repeat (first | rw [if_neg (by omega)] | rw [if_pos (by omega)])
      · have er : rqM S (m + 1) = rqM S m := by
          show rqM S m + (if S 2 (S 0 3 - (m + 1)) = 3 then 1 else 0) = _
          rw [hk', if_neg cr, Int.add_zero]
        rw [er] at q2
        rw [stR_s, hk', if_neg cr] at q4
        rw [ov_n hk' cr sk]
        exact r6.2.1 c q1 q2 trivial q4
      · have er : rqM S (m + 1) = rqM S m := by
          show rqM S m + (if S 2 (S 0 3 - (m + 1)) = 3 then 1 else 0) = _
          rw [hk', if_neg cr, Int.add_zero]
        rw [er]
        rcases r6.2.2 with q | ⟨c, q1, q2, _, q4, q5⟩
        · exact Or.inl q
        · exact Or.inr ⟨c, q1, q2, trivial, by rw [stR_s, hk', if_neg cr]; exact q4, by rw [ov_n hk' cr sk]; exact q5⟩
end CLASS
