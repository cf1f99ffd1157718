/-! THE CLASS: texts taken, copies -/
section TAKE
variable {E : (Nat → Value) × (Nat → Nat)} {lo d b c a : Nat} {μ : rM} {I Z : Nat → Int → Int} {s ln w n : Int} {B : Int → Int}
theorem take_sp (hd : 11 ≤ d) (hX : ShX μ c b) (hl : lo ≤ c) (hb : b < c) (hB : TpB I b B) (hn : 0 ≤ n ∧ n ≤ 600) (hSt : Sta E lo μ I) (hs : 0 ≤ s ∧ s < 4) : ∃ Z' D, cl E lo d 63 [.ref c, .int (J (s)), .int (J (n))] (mj μ (sB I c 23 Z)) = some (none, mj μ (sB I c 23 Z')) ∧ Cl0 s D ∧ (Z' 0 6, Z' 0 7) = (txR s B n D).1 ∧ dZ s Z' = (txR s B n D).2 ∧ i32 (Z' 0 6) := by
  obtain ⟨d, rfl⟩ : ∃ e, d = e + 1 := ⟨d - 1, by omega⟩
  have hcl := scl_sp (E := E) (lo := lo) (d := d) (I := I) (Z := Z) (by omega) hX hl
  obtain ⟨z22, z6, z7, zc⟩ := clZ_f (Z := Z) (s := s)
  obtain ⟨Z0, hZ0⟩ : ∃ Z0, Z0 = clZ Z := ⟨_, rfl⟩
  rw [← hZ0] at hcl z22 z6 z7 zc
  have hB' : TpB (sB I c 23 Z0) b B := fun j q1 q2 => by rw [sB_n (by omega)]; exact hB j q1 q2
  have hr := hX.2.2.2.2.2.2
  have hop := open_sp (E := E) (lo := lo) (d := d) (I := sB I c 23 Z0) (X := Z0 22) (x := n) (by omega) hr (by omega) hn hB'
  rw [sA_sB (by omega), sA_sB (by omega), sA_id] at hop
  obtain ⟨Z1, hZ1⟩ : ∃ Z1, Z1 = sA Z0 22 (nxX (u1 (u1 (Z0 22) 1 n) 2 0) B n 0) := ⟨_, rfl⟩
  rw [← hZ1] at hop
  have hR : RX B n (Z1 22) (tW B n 0) := by
    rw [hZ1, sA_s]
    refine RX_at ?_ (by omega)
    rw [u1_n (by omega), u1_s]
  have d1 : dZ s Z1 = dZ s Z0 := by rw [hZ1]; exact NuF_d (NuF_sA (Or.inr rfl))
  have q1 : Z1 0 = Z0 0 := by rw [hZ1, sA_n (by decide)]
  have i6 : i32 (Z1 0 6) := by rw [q1, z6]; unfold i32; omega
  have wb := hR.2.2
  obtain ⟨Z2, i2, b1, b3, b4⟩ := take_lp (E := E) (lo := lo) (d := d) (I := I) (s := s) (B := B) (n := n) (by omega) hX hl hb hB hn.2 hSt hs 601 0 Z1 (tW B n 0) hR i6 (by rw [d1]; exact Cl0_DI zc) (by omega) (by omega) (by omega)
  rw [q1, z6, z7, d1] at b3 b4
  have hDI := tx_DI (B := B) (n := n) hs 601 (tW B n 0) (0, -1) (dZ s Z0) (Cl0_DI zc)
  obtain ⟨R, hRR⟩ : ∃ R, R = txF s B n 601 (tW B n 0) (0, -1) (dZ s Z0) := ⟨_, rfl⟩
  rw [← hRR] at b3 b4 hDI
  have eX : txR s B n (dZ s Z0) = if s = 0 ∧ R.1.1 = 0 ∧ clQ R.2 ≠ 0 then ((clQ R.2, n), R.2) else R := by
    unfold txR
    rw [← hRR]
  obtain ⟨⟨hXk, hX0, hX1, hX2, hX3, hX4, hX5⟩, hXn, hXS, hXL, hXR, hXC, hXr⟩ := id hX
  have hlNu : lo ≤ c + 1 := by omega
  have hlS : lo ≤ c + 2 := by omega
  have hlL : lo ≤ c + 15 := by omega
  have hlR : lo ≤ c + 17 := by omega
  have hlC : lo ≤ c + 20 := by omega
  have s1 : cl E lo (d + 1) 63 [.ref c, .int (J s), .int (J n)] (mj μ (sB I c 23 Z)) = ex PG E lo d 63 17 [some (.ref c), some (.int (J (s))), some (.int (J (n))), some (.int (J (1))), some (.int (J (0)))] [] (mj μ (sB I c 23 Z1)) := by
    simp (disch := omega) only [b63_0, b63_4, b63_12, e63, gO_k hXk, gP_k hXk hl, gR_k hX0, gR_k hX1, gR_k hX2, gR_k hX3, gR_k hX4, gR_k hX5, rdA_k hXn, wrA_k hXn hlNu, gO_k hXr.1, gO_S hXS, gR_S2 hXS, gR_S4 hXS, gR_S5 hXS, gR_S6 hXS, gR_S7 hXS, gR_S8 hXS, gR_S9 hXS, gR_S10 hXS, gR_S11 hXS, gR_S12 hXS, gR_S14 hXS, gR_S15 hXS, al_S1 hXS, al_S2 hXS, al_S3 hXS, al_S4 hXS, al_S5 hXS, al_S6 hXS, al_S7 hXS, al_S8 hXS, al_S9 hXS, al_S10 hXS, al_S11 hXS, al_S12 hXS, rd_S1 hXS, rd_S2 hXS, rd_S3 hXS, rd_S4 hXS, rd_S5 hXS, rd_S6 hXS, rd_S7 hXS, rd_S8 hXS, rd_S9 hXS, rd_S10 hXS, rd_S11 hXS, rd_S12 hXS, gP_S hXS hlS, wr_S1 hXS hlS, wr_S2 hXS hlS, wr_S3 hXS hlS, wr_S4 hXS hlS, wr_S5 hXS hlS, wr_S6 hXS hlS, wr_S7 hXS hlS, wr_S8 hXS hlS, wr_S9 hXS hlS, wr_S10 hXS hlS, wr_S11 hXS hlS, wr_S12 hXS hlS, gO_L hXL, gR_L5 hXL, al_L1 hXL, rd_L1 hXL, gP_L hXL hlL, wr_L1 hXL hlL, gO_R hXR, gR_R3 hXR, gR_R4 hXR, al_R1 hXR, al_R2 hXR, rd_R1 hXR, rd_R2 hXR, gP_R hXR hlR, wr_R1 hXR hlR, wr_R2 hXR hlR, gO_C hXC, gR_C1 hXC, al_C1 hXC, rd_C1 hXC, gP_C hXC hlC, wr_C1 hXC hlC, Nat.add_assoc, Nat.reduceAdd, sB_0, sB_c, u3_sB0, u3_sB, u3_s, u3_n, Nat.reduceLT, hcl, hop, Jl0, Jl1, Jl2, Jl3, Jl4, Jl5, Jl6, Jl7, Jl8, Jl9, Jl10, Jl11, Jl12, Jl13, Jl14, Jl15, Jl16, Jl17, Jl18, Jl19, Jl20, Jl22, Jl24, Jl28, Jl30, Jl31, Jl32, Jl35, Jl36, Jl37, Jl38, Jl39, Jl40, Jl48, Jl57, Jl59, Jl60, Jl61, Jl63, Jl64, Jl68, Jl69, Jl96, Jl97, Jl98, Jl99, Jl100, Jl122, Jl149, Jl150, Jl165, Jl255, Jl511, Jl512, Jl600, Jl610, Jl940, Jl968, Jl999, Jl1134, Jl1152, Jl2048, Jl4608, Jl9999, Jl99999, Jl100000, Jl147456, Jl12345, Jl1103515245, Jl100000000, Jlm1, Jlm2, J_add, J_sub, J_mul, J_lt, J_le, J_eq, J_ite, J_cl, ri_j, wi_j, b2i_z, b2i_o, b2i_zo, Int.cast_ofNat_Int, Int.natCast_zero, Int.natCast_one, if_true, if_false, ite_self, Int.le_refl, J_bit, J_or, J_neg, J_oN, Int.reduceEq, Int.reduceLT, Int.reduceLE, Int.reduceNeg, Int.reduceAdd, Int.reduceSub, Int.reduceMul, Int.reduceToNat, J_shl, J_shr, V_ite, true_or, or_true, nz_j, J_div, J_rem, Option.bind_some, Option.toList_some, Option.toList_none, List.cons_append, List.nil_append, Jl21, Jl23, Jl25, Jl74, Jl83, Jl288, Jl324, Jl1800, Jlm8]
  rw [s1]
  rcases b4 with ⟨e0, e1, e2⟩ | ⟨e1, e2⟩
  · rw [e2]
    by_cases s0 : s = 0
    · have hI : StI (dZ 0 Z2) := by
        have := hDI.1 s0
        rw [← b3, s0] at this
        exact this
      obtain ⟨c1, c2, c3⟩ := clN_q (n := n) hI
      have hcs := cls_sp (E := E) (lo := lo) (d := d) (I := I) (Z := Z2) (n := n) (by omega) hX hl e0 hI
      refine ⟨clN Z2 n, dZ s Z0, ?_, zc, ?_, ?_, c3 e0⟩
      · simp (disch := omega) only [b63_51, b63_74, b63_78, b63_83, gO_k hXk, gP_k hXk hl, gR_k hX0, gR_k hX1, gR_k hX2, gR_k hX3, gR_k hX4, gR_k hX5, rdA_k hXn, wrA_k hXn hlNu, gO_k hXr.1, gO_S hXS, gR_S2 hXS, gR_S4 hXS, gR_S5 hXS, gR_S6 hXS, gR_S7 hXS, gR_S8 hXS, gR_S9 hXS, gR_S10 hXS, gR_S11 hXS, gR_S12 hXS, gR_S14 hXS, gR_S15 hXS, al_S1 hXS, al_S2 hXS, al_S3 hXS, al_S4 hXS, al_S5 hXS, al_S6 hXS, al_S7 hXS, al_S8 hXS, al_S9 hXS, al_S10 hXS, al_S11 hXS, al_S12 hXS, rd_S1 hXS, rd_S2 hXS, rd_S3 hXS, rd_S4 hXS, rd_S5 hXS, rd_S6 hXS, rd_S7 hXS, rd_S8 hXS, rd_S9 hXS, rd_S10 hXS, rd_S11 hXS, rd_S12 hXS, gP_S hXS hlS, wr_S1 hXS hlS, wr_S2 hXS hlS, wr_S3 hXS hlS, wr_S4 hXS hlS, wr_S5 hXS hlS, wr_S6 hXS hlS, wr_S7 hXS hlS, wr_S8 hXS hlS, wr_S9 hXS hlS, wr_S10 hXS hlS, wr_S11 hXS hlS, wr_S12 hXS hlS, gO_L hXL, gR_L5 hXL, al_L1 hXL, rd_L1 hXL, gP_L hXL hlL, wr_L1 hXL hlL, gO_R hXR, gR_R3 hXR, gR_R4 hXR, al_R1 hXR, al_R2 hXR, rd_R1 hXR, rd_R2 hXR, gP_R hXR hlR, wr_R1 hXR hlR, wr_R2 hXR hlR, gO_C hXC, gR_C1 hXC, al_C1 hXC, rd_C1 hXC, gP_C hXC hlC, wr_C1 hXC hlC, Nat.add_assoc, Nat.reduceAdd, sB_0, sB_c, u3_sB0, u3_sB, u3_s, u3_n, Nat.reduceLT, s0, hcs, Jl0, Jl1, Jl2, Jl3, Jl4, Jl5, Jl6, Jl7, Jl8, Jl9, Jl10, Jl11, Jl12, Jl13, Jl14, Jl15, Jl16, Jl17, Jl18, Jl19, Jl20, Jl22, Jl24, Jl28, Jl30, Jl31, Jl32, Jl35, Jl36, Jl37, Jl38, Jl39, Jl40, Jl48, Jl57, Jl59, Jl60, Jl61, Jl63, Jl64, Jl68, Jl69, Jl96, Jl97, Jl98, Jl99, Jl100, Jl122, Jl149, Jl150, Jl165, Jl255, Jl511, Jl512, Jl600, Jl610, Jl940, Jl968, Jl999, Jl1134, Jl1152, Jl2048, Jl4608, Jl9999, Jl99999, Jl100000, Jl147456, Jl12345, Jl1103515245, Jl100000000, Jlm1, Jlm2, J_add, J_sub, J_mul, J_lt, J_le, J_eq, J_ite, J_cl, ri_j, wi_j, b2i_z, b2i_o, b2i_zo, Int.cast_ofNat_Int, Int.natCast_zero, Int.natCast_one, if_true, if_false, ite_self, Int.le_refl, J_bit, J_or, J_neg, J_oN, Int.reduceEq, Int.reduceLT, Int.reduceLE, Int.reduceNeg, Int.reduceAdd, Int.reduceSub, Int.reduceMul, Int.reduceToNat, J_shl, J_shr, V_ite, true_or, or_true, nz_j, J_div, J_rem, Option.bind_some, Option.toList_some, Option.toList_none, List.cons_append, List.nil_append, Jl21, Jl23, Jl25, Jl74, Jl83, Jl288, Jl324, Jl1800, Jlm8]
      · rw [c1, eX]
        have f1 : Z2 0 6 = R.1.1 := congrArg Prod.fst e1
        rw [s0] at b3
        rw [b3, f1]
        by_cases q : R.1.1 = 0 ∧ clQ R.2 ≠ 0
        · rw [if_pos q, if_pos ⟨s0, q⟩]
        · rw [if_neg q, if_neg (fun z => q z.2), ← f1]
          exact e1
      · subst s0
        rw [c2, b3, eX]
        split <;> rfl
    · refine ⟨Z2, dZ s Z0, ?_, zc, ?_, ?_, e0⟩
      · simp (disch := omega) only [b63_51, b63_74, b63_83, gO_k hXk, gP_k hXk hl, gR_k hX0, gR_k hX1, gR_k hX2, gR_k hX3, gR_k hX4, gR_k hX5, rdA_k hXn, wrA_k hXn hlNu, gO_k hXr.1, gO_S hXS, gR_S2 hXS, gR_S4 hXS, gR_S5 hXS, gR_S6 hXS, gR_S7 hXS, gR_S8 hXS, gR_S9 hXS, gR_S10 hXS, gR_S11 hXS, gR_S12 hXS, gR_S14 hXS, gR_S15 hXS, al_S1 hXS, al_S2 hXS, al_S3 hXS, al_S4 hXS, al_S5 hXS, al_S6 hXS, al_S7 hXS, al_S8 hXS, al_S9 hXS, al_S10 hXS, al_S11 hXS, al_S12 hXS, rd_S1 hXS, rd_S2 hXS, rd_S3 hXS, rd_S4 hXS, rd_S5 hXS, rd_S6 hXS, rd_S7 hXS, rd_S8 hXS, rd_S9 hXS, rd_S10 hXS, rd_S11 hXS, rd_S12 hXS, gP_S hXS hlS, wr_S1 hXS hlS, wr_S2 hXS hlS, wr_S3 hXS hlS, wr_S4 hXS hlS, wr_S5 hXS hlS, wr_S6 hXS hlS, wr_S7 hXS hlS, wr_S8 hXS hlS, wr_S9 hXS hlS, wr_S10 hXS hlS, wr_S11 hXS hlS, wr_S12 hXS hlS, gO_L hXL, gR_L5 hXL, al_L1 hXL, rd_L1 hXL, gP_L hXL hlL, wr_L1 hXL hlL, gO_R hXR, gR_R3 hXR, gR_R4 hXR, al_R1 hXR, al_R2 hXR, rd_R1 hXR, rd_R2 hXR, gP_R hXR hlR, wr_R1 hXR hlR, wr_R2 hXR hlR, gO_C hXC, gR_C1 hXC, al_C1 hXC, rd_C1 hXC, gP_C hXC hlC, wr_C1 hXC hlC, Nat.add_assoc, Nat.reduceAdd, sB_0, sB_c, u3_sB0, u3_sB, u3_s, u3_n, Nat.reduceLT, s0, Jl0, Jl1, Jl2, Jl3, Jl4, Jl5, Jl6, Jl7, Jl8, Jl9, Jl10, Jl11, Jl12, Jl13, Jl14, Jl15, Jl16, Jl17, Jl18, Jl19, Jl20, Jl22, Jl24, Jl28, Jl30, Jl31, Jl32, Jl35, Jl36, Jl37, Jl38, Jl39, Jl40, Jl48, Jl57, Jl59, Jl60, Jl61, Jl63, Jl64, Jl68, Jl69, Jl96, Jl97, Jl98, Jl99, Jl100, Jl122, Jl149, Jl150, Jl165, Jl255, Jl511, Jl512, Jl600, Jl610, Jl940, Jl968, Jl999, Jl1134, Jl1152, Jl2048, Jl4608, Jl9999, Jl99999, Jl100000, Jl147456, Jl12345, Jl1103515245, Jl100000000, Jlm1, Jlm2, J_add, J_sub, J_mul, J_lt, J_le, J_eq, J_ite, J_cl, ri_j, wi_j, b2i_z, b2i_o, b2i_zo, Int.cast_ofNat_Int, Int.natCast_zero, Int.natCast_one, if_true, if_false, ite_self, Int.le_refl, J_bit, J_or, J_neg, J_oN, Int.reduceEq, Int.reduceLT, Int.reduceLE, Int.reduceNeg, Int.reduceAdd, Int.reduceSub, Int.reduceMul, Int.reduceToNat, J_shl, J_shr, V_ite, true_or, or_true, nz_j, J_div, J_rem, Option.bind_some, Option.toList_some, Option.toList_none, List.cons_append, List.nil_append, Jl21, Jl23, Jl25, Jl74, Jl83, Jl288, Jl324, Jl1800, Jlm8]
        repeat (first | rw [if_neg (by omega)] | rw [if_pos (by omega)])
      · rw [eX, if_neg (fun z => s0 z.1)]
        exact e1
      · rw [eX, if_neg (fun z => s0 z.1)]
        exact b3
  · rw [e2]
    have r1 : ¬ R.1.1 = 0 := by rw [e1]; exact (by decide : ¬ (1 : Int) = 0)
    have e4 : u3 Z2 0 6 1 22 4 = Z2 22 4 := by rw [u3_c (by decide)]
    refine ⟨u3 (u3 Z2 0 6 1) 0 7 (Z2 22 4), dZ s Z0, ?_, zc, ?_, ?_, ?_⟩
    · simp (disch := omega) only [b63_51, b63_55, b63_60, b63_71, b63_83, gO_k hXk, gP_k hXk hl, gR_k hX0, gR_k hX1, gR_k hX2, gR_k hX3, gR_k hX4, gR_k hX5, rdA_k hXn, wrA_k hXn hlNu, gO_k hXr.1, gO_S hXS, gR_S2 hXS, gR_S4 hXS, gR_S5 hXS, gR_S6 hXS, gR_S7 hXS, gR_S8 hXS, gR_S9 hXS, gR_S10 hXS, gR_S11 hXS, gR_S12 hXS, gR_S14 hXS, gR_S15 hXS, al_S1 hXS, al_S2 hXS, al_S3 hXS, al_S4 hXS, al_S5 hXS, al_S6 hXS, al_S7 hXS, al_S8 hXS, al_S9 hXS, al_S10 hXS, al_S11 hXS, al_S12 hXS, rd_S1 hXS, rd_S2 hXS, rd_S3 hXS, rd_S4 hXS, rd_S5 hXS, rd_S6 hXS, rd_S7 hXS, rd_S8 hXS, rd_S9 hXS, rd_S10 hXS, rd_S11 hXS, rd_S12 hXS, gP_S hXS hlS, wr_S1 hXS hlS, wr_S2 hXS hlS, wr_S3 hXS hlS, wr_S4 hXS hlS, wr_S5 hXS hlS, wr_S6 hXS hlS, wr_S7 hXS hlS, wr_S8 hXS hlS, wr_S9 hXS hlS, wr_S10 hXS hlS, wr_S11 hXS hlS, wr_S12 hXS hlS, gO_L hXL, gR_L5 hXL, al_L1 hXL, rd_L1 hXL, gP_L hXL hlL, wr_L1 hXL hlL, gO_R hXR, gR_R3 hXR, gR_R4 hXR, al_R1 hXR, al_R2 hXR, rd_R1 hXR, rd_R2 hXR, gP_R hXR hlR, wr_R1 hXR hlR, wr_R2 hXR hlR, gO_C hXC, gR_C1 hXC, al_C1 hXC, rd_C1 hXC, gP_C hXC hlC, wr_C1 hXC hlC, Nat.add_assoc, Nat.reduceAdd, sB_0, sB_c, u3_sB0, u3_sB, u3_s, u3_n, Nat.reduceLT, Jl0, Jl1, Jl2, Jl3, Jl4, Jl5, Jl6, Jl7, Jl8, Jl9, Jl10, Jl11, Jl12, Jl13, Jl14, Jl15, Jl16, Jl17, Jl18, Jl19, Jl20, Jl22, Jl24, Jl28, Jl30, Jl31, Jl32, Jl35, Jl36, Jl37, Jl38, Jl39, Jl40, Jl48, Jl57, Jl59, Jl60, Jl61, Jl63, Jl64, Jl68, Jl69, Jl96, Jl97, Jl98, Jl99, Jl100, Jl122, Jl149, Jl150, Jl165, Jl255, Jl511, Jl512, Jl600, Jl610, Jl940, Jl968, Jl999, Jl1134, Jl1152, Jl2048, Jl4608, Jl9999, Jl99999, Jl100000, Jl147456, Jl12345, Jl1103515245, Jl100000000, Jlm1, Jlm2, J_add, J_sub, J_mul, J_lt, J_le, J_eq, J_ite, J_cl, ri_j, wi_j, b2i_z, b2i_o, b2i_zo, Int.cast_ofNat_Int, Int.natCast_zero, Int.natCast_one, if_true, if_false, ite_self, Int.le_refl, J_bit, J_or, J_neg, J_oN, Int.reduceEq, Int.reduceLT, Int.reduceLE, Int.reduceNeg, Int.reduceAdd, Int.reduceSub, Int.reduceMul, Int.reduceToNat, J_shl, J_shr, V_ite, true_or, or_true, nz_j, J_div, J_rem, Option.bind_some, Option.toList_some, Option.toList_none, List.cons_append, List.nil_append, Jl21, Jl23, Jl25, Jl74, Jl83, Jl288, Jl324, Jl1800, Jlm8]
    · rw [eX, if_neg (fun z => r1 z.2.1), e1, u3_n (by omega), u3_s, u3_s]
    · rw [eX, if_neg (fun z => r1 z.2.1), ← b3]
      refine NuF_d ⟨fun a h1 h2 h3 => by rw [u3_c (by omega), u3_c (by omega)], fun j h1 h2 => by rw [u3_n (by omega), u3_n (by omega)]⟩
    · rw [u3_n (by omega), u3_s]
      unfold i32
      omega
end TAKE
section COPY
variable {E : (Nat → Value) × (Nat → Nat)} {lo d a b n1 n2 t k : Nat} {μ : rM} {I : Nat → Int → Int} {r : Option rRs}
/-- row k of n, from b to a -/
def cpk (J I : Nat → Int → Int) (a b : Nat) (n : Int) : Nat → Int → Int := sA J a (cpr (I b) (I a) 0 0 n)
def cpS (I : Nat → Int → Int) (a b : Nat) : Nat → Int → Int := cpk (cpk (cpk (cpk (cpk (cpk (cpk (cpk (cpk (cpk (cpk (cpk (u3 (u3 (u3 (u3 I a 0 (I b 0)) a 1 (I b 1)) a 3 (I b 3)) a 13 (I b 13)) I (a + 1) (b + 1) 64) I (a + 2) (b + 2) 9) I (a + 3) (b + 3) 9) I (a + 4) (b + 4) 9) I (a + 5) (b + 5) 9) I (a + 6) (b + 6) 9) I (a + 7) (b + 7) 9) I (a + 8) (b + 8) 9) I (a + 9) (b + 9) 9) I (a + 10) (b + 10) 9) I (a + 11) (b + 11) 9) I (a + 12) (b + 12) 9
def cpL (I : Nat → Int → Int) (a b : Nat) : Nat → Int → Int := cpk (u3 (u3 (u3 (u3 (u3 I a 0 (I b 0)) a 1 (I b 1)) a 2 (I b 2)) a 3 (I b 3)) a 4 (I b 4)) I (a + 1) (b + 1) 9
def cpR (I : Nat → Int → Int) (a b : Nat) : Nat → Int → Int := cpk (cpk (u3 (u3 (u3 I a 0 (I b 0)) a 1 (I b 1)) a 2 (I b 2)) I (a + 1) (b + 1) 40) I (a + 2) (b + 2) 40
def cpC (I : Nat → Int → Int) (a b : Nat) : Nat → Int → Int := cpk (u3 I a 0 (I b 0)) I (a + 1) (b + 1) 8
theorem acpS {X : Nat → Int → Int} {q : Nat × Nat × Nat × Nat} {m : Int} (ha : ShS μ a) (hb : ShS μ b) (hl : lo ≤ a ∧ lo ≤ b) (hab : a + 13 ≤ b ∨ b + 13 ≤ a) (hq : q ∈ lsS) (h0 : q.2.2.1 = 0) (hm : m = (q.2.2.2 : Int)) (h12 : q.2.1 ≤ 12 ∧ q.2.2.2 ≤ 64) : acp lo (mj μ X) (b + q.2.1) (J 0) (a + q.2.1) (J 0) (J m) r = r := by
  have e1 := (ha.2 q hq).2
  have e2 := (hb.2 q hq).2
  rw [h0] at e1 e2
  exact acp_k e2 e1 (Or.inl rfl) (by omega) (by omega)
theorem scp_sp (hd : 1 ≤ d) (ha : ShS μ a) (hb : ShS μ b) (hl : lo ≤ a ∧ lo ≤ b) (hab : a + 13 ≤ b ∨ b + 13 ≤ a) : cl E lo d 79 [.ref a, .ref b] (mj μ I) = some (none, mj μ (cpS I a b)) := by
  obtain ⟨d, rfl⟩ : ∃ e, d = e + 1 := ⟨d - 1, by omega⟩
  have hla := hl.1
  have k1 := fun X (r : Option rRs) => acpS (X := X) (r := r) (q := (2, 1, 0, 64)) (m := 64) ha hb hl hab (by decide) rfl rfl (by decide)
  have k2 := fun X (r : Option rRs) => acpS (X := X) (r := r) (q := (4, 2, 0, 9)) (m := 9) ha hb hl hab (by decide) rfl rfl (by decide)
  have k3 := fun X (r : Option rRs) => acpS (X := X) (r := r) (q := (5, 3, 0, 9)) (m := 9) ha hb hl hab (by decide) rfl rfl (by decide)
  have k4 := fun X (r : Option rRs) => acpS (X := X) (r := r) (q := (6, 4, 0, 9)) (m := 9) ha hb hl hab (by decide) rfl rfl (by decide)
  have k5 := fun X (r : Option rRs) => acpS (X := X) (r := r) (q := (7, 5, 0, 9)) (m := 9) ha hb hl hab (by decide) rfl rfl (by decide)
  have k6 := fun X (r : Option rRs) => acpS (X := X) (r := r) (q := (8, 6, 0, 9)) (m := 9) ha hb hl hab (by decide) rfl rfl (by decide)
  have k7 := fun X (r : Option rRs) => acpS (X := X) (r := r) (q := (9, 7, 0, 9)) (m := 9) ha hb hl hab (by decide) rfl rfl (by decide)
  have k8 := fun X (r : Option rRs) => acpS (X := X) (r := r) (q := (10, 8, 0, 9)) (m := 9) ha hb hl hab (by decide) rfl rfl (by decide)
  have k9 := fun X (r : Option rRs) => acpS (X := X) (r := r) (q := (11, 9, 0, 9)) (m := 9) ha hb hl hab (by decide) rfl rfl (by decide)
  have k10 := fun X (r : Option rRs) => acpS (X := X) (r := r) (q := (12, 10, 0, 9)) (m := 9) ha hb hl hab (by decide) rfl rfl (by decide)
  have k11 := fun X (r : Option rRs) => acpS (X := X) (r := r) (q := (14, 11, 0, 9)) (m := 9) ha hb hl hab (by decide) rfl rfl (by decide)
  have k12 := fun X (r : Option rRs) => acpS (X := X) (r := r) (q := (15, 12, 0, 9)) (m := 9) ha hb hl hab (by decide) rfl rfl (by decide)
  dsimp only at k1 k2 k3 k4 k5 k6 k7 k8 k9 k10 k11 k12
  unfold cpS cpk
  simp (disch := omega) only [e79, b79_0, b79_8, b79_16, b79_24, b79_32, b79_50, b79_65, b79_80, b79_95, b79_110, b79_125, b79_140, b79_155, b79_170, b79_185, b79_200, b79_215, gO_S ha, gR_S2 ha, gR_S4 ha, gR_S5 ha, gR_S6 ha, gR_S7 ha, gR_S8 ha, gR_S9 ha, gR_S10 ha, gR_S11 ha, gR_S12 ha, gR_S14 ha, gR_S15 ha, al_S1 ha, al_S2 ha, al_S3 ha, al_S4 ha, al_S5 ha, al_S6 ha, al_S7 ha, al_S8 ha, al_S9 ha, al_S10 ha, al_S11 ha, al_S12 ha, rd_S1 ha, rd_S2 ha, rd_S3 ha, rd_S4 ha, rd_S5 ha, rd_S6 ha, rd_S7 ha, rd_S8 ha, rd_S9 ha, rd_S10 ha, rd_S11 ha, rd_S12 ha, gP_S ha hla, wr_S1 ha hla, wr_S2 ha hla, wr_S3 ha hla, wr_S4 ha hla, wr_S5 ha hla, wr_S6 ha hla, wr_S7 ha hla, wr_S8 ha hla, wr_S9 ha hla, wr_S10 ha hla, wr_S11 ha hla, wr_S12 ha hla, gO_S hb, gR_S2 hb, gR_S4 hb, gR_S5 hb, gR_S6 hb, gR_S7 hb, gR_S8 hb, gR_S9 hb, gR_S10 hb, gR_S11 hb, gR_S12 hb, gR_S14 hb, gR_S15 hb, al_S1 hb, al_S2 hb, al_S3 hb, al_S4 hb, al_S5 hb, al_S6 hb, al_S7 hb, al_S8 hb, al_S9 hb, al_S10 hb, al_S11 hb, al_S12 hb, rd_S1 hb, rd_S2 hb, rd_S3 hb, rd_S4 hb, rd_S5 hb, rd_S6 hb, rd_S7 hb, rd_S8 hb, rd_S9 hb, rd_S10 hb, rd_S11 hb, rd_S12 hb, k1, k2, k3, k4, k5, k6, k7, k8, k9, k10, k11, k12, cp_j, sA_n, u3_c, Jl0, Jl1, Jl2, Jl3, Jl4, Jl5, Jl6, Jl7, Jl8, Jl9, Jl10, Jl11, Jl12, Jl13, Jl14, Jl15, Jl16, Jl17, Jl18, Jl19, Jl20, Jl22, Jl24, Jl28, Jl30, Jl31, Jl32, Jl35, Jl36, Jl37, Jl38, Jl39, Jl40, Jl48, Jl57, Jl59, Jl60, Jl61, Jl63, Jl64, Jl68, Jl69, Jl96, Jl97, Jl98, Jl99, Jl100, Jl122, Jl149, Jl150, Jl165, Jl255, Jl511, Jl512, Jl600, Jl610, Jl940, Jl968, Jl999, Jl1134, Jl1152, Jl2048, Jl4608, Jl9999, Jl99999, Jl100000, Jl147456, Jl12345, Jl1103515245, Jl100000000, Jlm1, Jlm2, J_add, J_sub, J_mul, J_lt, J_le, J_eq, J_ite, J_cl, ri_j, wi_j, b2i_z, b2i_o, b2i_zo, Int.cast_ofNat_Int, Int.natCast_zero, Int.natCast_one, if_true, if_false, ite_self, Int.le_refl, J_bit, J_or, J_neg, J_oN, Int.reduceEq, Int.reduceLT, Int.reduceLE, Int.reduceNeg, Int.reduceAdd, Int.reduceSub, Int.reduceMul, Int.reduceToNat, J_shl, J_shr, V_ite, true_or, or_true, nz_j, J_div, J_rem, Option.bind_some, Option.toList_some, Option.toList_none, List.cons_append, List.nil_append, Jl21, Jl23, Jl25, Jl74, Jl83, Jl288, Jl324, Jl1800, Jlm8]
theorem lcp_sp (hd : 1 ≤ d) (ha : ShL μ a) (hb : ShL μ b) (hl : lo ≤ a ∧ lo ≤ b) (hab : a + 2 ≤ b ∨ b + 2 ≤ a) (h4 : I b 4 = 0 ∨ I b 4 = 1) : cl E lo d 8 [.ref a, .ref b] (mj μ I) = some (none, mj μ (cpL I a b)) := by
  obtain ⟨d, rfl⟩ : ∃ e, d = e + 1 := ⟨d - 1, by omega⟩
  have hla := hl.1
  have k1 := fun X (r : Option rRs) => acp_k (μ := μ) (lo := lo) (I := X) (r := r) (x := 0) (y := 0) (w := 9) (hb.2 (5, 1, 0, 9) (by decide)).2 (ha.2 (5, 1, 0, 9) (by decide)).2 (Or.inl rfl) (by dsimp only; omega) (by dsimp only; omega)
  dsimp only at k1
  unfold cpL cpk
  simp (disch := omega) only [e8, b8_0, b8_8, b8_16, b8_24, b8_32, b8_40, b8_55, gO_L ha, gR_L5 ha, al_L1 ha, rd_L1 ha, gP_L ha hla, wr_L1 ha hla, gO_L hb, gR_L5 hb, al_L1 hb, rd_L1 hb, k1, cp_j, sA_n, u3_c, Jl0, Jl1, Jl2, Jl3, Jl4, Jl5, Jl6, Jl7, Jl8, Jl9, Jl10, Jl11, Jl12, Jl13, Jl14, Jl15, Jl16, Jl17, Jl18, Jl19, Jl20, Jl22, Jl24, Jl28, Jl30, Jl31, Jl32, Jl35, Jl36, Jl37, Jl38, Jl39, Jl40, Jl48, Jl57, Jl59, Jl60, Jl61, Jl63, Jl64, Jl68, Jl69, Jl96, Jl97, Jl98, Jl99, Jl100, Jl122, Jl149, Jl150, Jl165, Jl255, Jl511, Jl512, Jl600, Jl610, Jl940, Jl968, Jl999, Jl1134, Jl1152, Jl2048, Jl4608, Jl9999, Jl99999, Jl100000, Jl147456, Jl12345, Jl1103515245, Jl100000000, Jlm1, Jlm2, J_add, J_sub, J_mul, J_lt, J_le, J_eq, J_ite, J_cl, ri_j, wi_j, b2i_z, b2i_o, b2i_zo, Int.cast_ofNat_Int, Int.natCast_zero, Int.natCast_one, if_true, if_false, ite_self, Int.le_refl, J_bit, J_or, J_neg, J_oN, Int.reduceEq, Int.reduceLT, Int.reduceLE, Int.reduceNeg, Int.reduceAdd, Int.reduceSub, Int.reduceMul, Int.reduceToNat, J_shl, J_shr, V_ite, true_or, or_true, nz_j, J_div, J_rem, Option.bind_some, Option.toList_some, Option.toList_none, List.cons_append, List.nil_append, Jl21, Jl23, Jl25, Jl74, Jl83, Jl288, Jl324, Jl1800, Jlm8]
  rw [if_pos h4]
theorem rcp_sp (hd : 1 ≤ d) (ha : ShR μ a) (hb : ShR μ b) (hl : lo ≤ a ∧ lo ≤ b) (hab : a + 3 ≤ b ∨ b + 3 ≤ a) : cl E lo d 60 [.ref a, .ref b] (mj μ I) = some (none, mj μ (cpR I a b)) := by
  obtain ⟨d, rfl⟩ : ∃ e, d = e + 1 := ⟨d - 1, by omega⟩
  have hla := hl.1
  have k1 := fun X (r : Option rRs) => acp_k (μ := μ) (lo := lo) (I := X) (r := r) (x := 0) (y := 0) (w := 40) (hb.2 (3, 1, 0, 40) (by decide)).2 (ha.2 (3, 1, 0, 40) (by decide)).2 (Or.inl rfl) (by dsimp only; omega) (by dsimp only; omega)
  have k2 := fun X (r : Option rRs) => acp_k (μ := μ) (lo := lo) (I := X) (r := r) (x := 0) (y := 0) (w := 40) (hb.2 (4, 2, 0, 40) (by decide)).2 (ha.2 (4, 2, 0, 40) (by decide)).2 (Or.inl rfl) (by dsimp only; omega) (by dsimp only; omega)
  dsimp only at k1 k2
  unfold cpR cpk
  simp (disch := omega) only [e60, b60_0, b60_8, b60_16, b60_24, b60_39, b60_54, gO_R ha, gR_R3 ha, gR_R4 ha, al_R1 ha, al_R2 ha, rd_R1 ha, rd_R2 ha, gP_R ha hla, wr_R1 ha hla, wr_R2 ha hla, gO_R hb, gR_R3 hb, gR_R4 hb, al_R1 hb, al_R2 hb, rd_R1 hb, rd_R2 hb, k1, k2, cp_j, sA_n, u3_c, Jl0, Jl1, Jl2, Jl3, Jl4, Jl5, Jl6, Jl7, Jl8, Jl9, Jl10, Jl11, Jl12, Jl13, Jl14, Jl15, Jl16, Jl17, Jl18, Jl19, Jl20, Jl22, Jl24, Jl28, Jl30, Jl31, Jl32, Jl35, Jl36, Jl37, Jl38, Jl39, Jl40, Jl48, Jl57, Jl59, Jl60, Jl61, Jl63, Jl64, Jl68, Jl69, Jl96, Jl97, Jl98, Jl99, Jl100, Jl122, Jl149, Jl150, Jl165, Jl255, Jl511, Jl512, Jl600, Jl610, Jl940, Jl968, Jl999, Jl1134, Jl1152, Jl2048, Jl4608, Jl9999, Jl99999, Jl100000, Jl147456, Jl12345, Jl1103515245, Jl100000000, Jlm1, Jlm2, J_add, J_sub, J_mul, J_lt, J_le, J_eq, J_ite, J_cl, ri_j, wi_j, b2i_z, b2i_o, b2i_zo, Int.cast_ofNat_Int, Int.natCast_zero, Int.natCast_one, if_true, if_false, ite_self, Int.le_refl, J_bit, J_or, J_neg, J_oN, Int.reduceEq, Int.reduceLT, Int.reduceLE, Int.reduceNeg, Int.reduceAdd, Int.reduceSub, Int.reduceMul, Int.reduceToNat, J_shl, J_shr, V_ite, true_or, or_true, nz_j, J_div, J_rem, Option.bind_some, Option.toList_some, Option.toList_none, List.cons_append, List.nil_append, Jl21, Jl23, Jl25, Jl74, Jl83, Jl288, Jl324, Jl1800, Jlm8]
theorem ccp_sp (hd : 1 ≤ d) (ha : ShC μ a) (hb : ShC μ b) (hl : lo ≤ a ∧ lo ≤ b) (hab : a + 2 ≤ b ∨ b + 2 ≤ a) : cl E lo d 2 [.ref a, .ref b] (mj μ I) = some (none, mj μ (cpC I a b)) := by
  obtain ⟨d, rfl⟩ : ∃ e, d = e + 1 := ⟨d - 1, by omega⟩
  have hla := hl.1
  have k1 := fun X (r : Option rRs) => acp_k (μ := μ) (lo := lo) (I := X) (r := r) (x := 0) (y := 0) (w := 8) (hb.2 (1, 1, 0, 8) (by decide)).2 (ha.2 (1, 1, 0, 8) (by decide)).2 (Or.inl rfl) (by dsimp only; omega) (by dsimp only; omega)
  dsimp only at k1
  unfold cpC cpk
  simp (disch := omega) only [e2, b2_0, b2_8, b2_23, gO_C ha, gR_C1 ha, al_C1 ha, rd_C1 ha, gP_C ha hla, wr_C1 ha hla, gO_C hb, gR_C1 hb, al_C1 hb, rd_C1 hb, k1, cp_j, sA_n, u3_c, Jl0, Jl1, Jl2, Jl3, Jl4, Jl5, Jl6, Jl7, Jl8, Jl9, Jl10, Jl11, Jl12, Jl13, Jl14, Jl15, Jl16, Jl17, Jl18, Jl19, Jl20, Jl22, Jl24, Jl28, Jl30, Jl31, Jl32, Jl35, Jl36, Jl37, Jl38, Jl39, Jl40, Jl48, Jl57, Jl59, Jl60, Jl61, Jl63, Jl64, Jl68, Jl69, Jl96, Jl97, Jl98, Jl99, Jl100, Jl122, Jl149, Jl150, Jl165, Jl255, Jl511, Jl512, Jl600, Jl610, Jl940, Jl968, Jl999, Jl1134, Jl1152, Jl2048, Jl4608, Jl9999, Jl99999, Jl100000, Jl147456, Jl12345, Jl1103515245, Jl100000000, Jlm1, Jlm2, J_add, J_sub, J_mul, J_lt, J_le, J_eq, J_ite, J_cl, ri_j, wi_j, b2i_z, b2i_o, b2i_zo, Int.cast_ofNat_Int, Int.natCast_zero, Int.natCast_one, if_true, if_false, ite_self, Int.le_refl, J_bit, J_or, J_neg, J_oN, Int.reduceEq, Int.reduceLT, Int.reduceLE, Int.reduceNeg, Int.reduceAdd, Int.reduceSub, Int.reduceMul, Int.reduceToNat, J_shl, J_shr, V_ite, true_or, or_true, nz_j, J_div, J_rem, Option.bind_some, Option.toList_some, Option.toList_none, List.cons_append, List.nil_append, Jl21, Jl23, Jl25, Jl74, Jl83, Jl288, Jl324, Jl1800, Jlm8]
end COPY
