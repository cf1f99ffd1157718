/-! THE REFERENCE'S ANSWERS: sold, the rows one by one -/
/-- a house of a row is reached -/
def ND (S L M : Nat → Int → Int) (n hh uu ss : Int) (row : Int → Int) (vs : Int) (b : Int × Int × (Int → Int)) : Prop :=
  (RW M S ∧ RL M L) ∧ (M 15 n = hh ∧ M 17 n = uu ∧ M 18 n = ss) ∧ (∀ j, 0 ≤ j → j ≤ n → M 15 j = row j ∧ 0 ≤ row j ∧ row j < 8) ∧ (∀ k, 0 ≤ k → k < 8 → (tb vs k = true ↔ ∃ j, 0 ≤ j ∧ j ≤ n ∧ row j = k)) ∧ (0 ≤ vs ∧ vs < p2 (S 0 0) ∧ bc vs = n + 1) ∧ BST M b ∧ (0 < b.2.1 ∧ b.2.1 ≤ 8) ∧ (0 ≤ hh ∧ hh < S 0 0 ∧ 0 ≤ uu ∧ uu ≤ 35) ∧ (0 ≤ ss ∧ ss ≤ 9000 * (n + 1)) ∧ (-1 ≤ b.1 ∧ b.1 ≤ 72000)
/-- what each next house does -/
def sdG (S L : Nat → Int → Int) (m : Nat) (n hh uu ss : Int) (row : Int → Int) (vs : Int) (k : Int) (b : Int × Int × (Int → Int)) : Int × Int × (Int → Int) := if S 1 (hh * 8 + k) ≠ 0 ∧ uu + S 1 (hh * 8 + k) ≤ 35 ∧ tb vs k = false then sdF S (chQ S L) m (n + 1) k (uu + S 1 (hh * 8 + k)) vs ss row b else b
section REF
variable {E : (Nat → Value) × (Nat → Nat)} {lo d m : Nat} {μ : rM} {I M S L R C T : Nat → Int → Int} {k u x y z h w s r n c j : Int}
/-- from a house of a row back to the one ahead of it -/
def SP (E : (Nat → Value) × (Nat → Nat)) (lo d m : Nat) (μ : rM) (I S L : Nat → Int → Int) (f : Nat) (n : Int) : Prop := ∀ (g : Nat) (M : Nat → Int → Int) (hh uu ss : Int) (row : Int → Int) (vs : Int) (b : Int × Int × (Int → Int)) (q2 q3 : Option Value), ND S L M n hh uu ss row vs b → M 19 n = S 0 0 - g → (g : Int) ≤ S 0 0 → ∃ M' q2' q3', ex PG E lo d 246 19 [some (.ref m), some (.int (J (n))), q2, q3] [] (mj μ (sB I m 26 M)) = ex PG E lo d 246 19 [some (.ref m), some (.int (J ((n - 1)))), q2', q3'] [] (mj μ (sB I m 26 M')) ∧ (RW M' S ∧ RL M' L) ∧ (M' 1 = M 1 ∧ M' 2 = M 2) ∧ (∀ j, 0 ≤ j → j < n → M' 15 j = M 15 j ∧ M' 17 j = M 17 j ∧ M' 18 j = M 18 j ∧ M' 19 j = M 19 j) ∧ BST M' (fr (sdG S L f n hh uu ss row vs) b (S 0 0 - g) (S 0 0)) ∧ (0 < (fr (sdG S L f n hh uu ss row vs) b (S 0 0 - g) (S 0 0)).2.1 ∧ (fr (sdG S L f n hh uu ss row vs) b (S 0 0 - g) (S 0 0)).2.1 ≤ 8) ∧ (-1 ≤ (fr (sdG S L f n hh uu ss row vs) b (S 0 0 - g) (S 0 0)).1 ∧ (fr (sdG S L f n hh uu ss row vs) b (S 0 0 - g) (S 0 0)).1 ≤ 72000)
theorem ND_19 {hh uu ss vs : Int} {row : Int → Int} {b : Int × Int × (Int → Int)} {t : Int} (h : ND S L M n hh uu ss row vs b) : ND S L (u3 M 19 n t) n hh uu ss row vs b := by
  obtain ⟨⟨hW, hL⟩, n2, n3, n4, n5, n6, n7, n8, n9, n10⟩ := h
  refine ⟨⟨⟨hW.1.fr (by simp [u3]) (by simp [u3]) (by funext x; simp [u3]) (by funext x; simp [u3]) (by funext x; simp [u3]) (by funext x; simp [u3]) (by funext x; simp [u3]), ?_, by rw [u3_c (by decide)]; exact hW.2.2⟩, hL.fr (by simp [u3]) (by funext x; simp [u3])⟩, ?_, ?_, n4, n5, ⟨by rw [u3_c (by decide)]; exact n6.1, by rw [u3_c (by decide)]; exact n6.2.1, by rw [u3_c (by decide)]; exact n6.2.2⟩, n7, n8, n9, n10⟩
  · have := hW.2.1
    unfold RBS at *
    rw [u3_c (by decide), u3_c (by decide)]
    exact this
  · rw [u3_c (by decide), u3_c (by decide), u3_c (by decide)]; exact n2
  · rw [u3_c (by decide)]; exact n3
theorem sel_in (hd : 9 ≤ d) (hM : ShM μ m) (hl : lo ≤ m) (hV : SV S) (hLV : LV L) {f : Nat} (hn : n = 7 - f) (hn0 : 0 ≤ n) (hch : ∀ f', f = f' + 1 → SP E lo d m μ I S L f' (n + 1)) : SP E lo d m μ I S L f n := by
  have v := hV.1
  intro g
  induction g with
  | zero =>
    intro M hh uu ss row vs b q2 q3 hN h19 hg
    obtain ⟨⟨hW, hL⟩, n2, n3, n4, n5, n6, n7, n8, n9, n10⟩ := ND_19 (t := M 19 n + 1) hN
    have hnh := nH_sp (E := E) (lo := lo) (d := d) (I := I) (by omega) hM hW.1
    rw [show S 0 0 - ((0 : Nat) : Int) = S 0 0 by omega, fr_n]
    refine ⟨u3 M 19 n (M 19 n + 1), some (.int (J (M 19 n))), q3, ?_, ⟨hW, hL⟩, ⟨u3_c (by decide), u3_c (by decide)⟩, fun j q1 q2 => ⟨by rw [u3_c (by decide)], by rw [u3_c (by decide)], by rw [u3_c (by decide)], u3_n (by omega)⟩, n6, n7, n10⟩
    rw [b246_19]
    simp (disch := omega) only [b246_23, b246_40, b246_45, b246_48, gO_M hM, gR_M0 hM, gR_M1 hM, gR_M11 hM, gR_M13 hM, gR_M14 hM, gR_M15 hM, gR_M16 hM, gR_M17 hM, gR_M22 hM, gR_M32 hM, gR_M33 hM, gR_M34 hM, gR_M35 hM, gR_M36 hM, gR_M37 hM, gR_M38 hM, gR_M41 hM, gR_M42 hM, gR_M43 hM, gR_M45 hM, gR_M46 hM, gR_M47 hM, gR_M50 hM, gR_M51 hM, gR_M52 hM, al_M1 hM, al_M2 hM, al_M3 hM, al_M4 hM, al_M5 hM, al_M6 hM, al_M7 hM, al_M8 hM, al_M9 hM, al_M10 hM, al_M11 hM, al_M12 hM, al_M13 hM, al_M14 hM, al_M15 hM, al_M16 hM, al_M17 hM, al_M18 hM, al_M19 hM, al_M20 hM, al_M21 hM, al_M22 hM, al_M23 hM, al_M24 hM, al_M25 hM, rd_M1 hM, rd_M2 hM, rd_M3 hM, rd_M4 hM, rd_M5 hM, rd_M6 hM, rd_M7 hM, rd_M8 hM, rd_M9 hM, rd_M10 hM, rd_M11 hM, rd_M12 hM, rd_M13 hM, rd_M14 hM, rd_M15 hM, rd_M16 hM, rd_M17 hM, rd_M18 hM, rd_M19 hM, rd_M20 hM, rd_M21 hM, rd_M22 hM, rd_M23 hM, rd_M24 hM, rd_M25 hM, gP_M hM hl, wr_M1 hM hl, wr_M2 hM hl, wr_M3 hM hl, wr_M4 hM hl, wr_M5 hM hl, wr_M6 hM hl, wr_M7 hM hl, wr_M8 hM hl, wr_M9 hM hl, wr_M10 hM hl, wr_M11 hM hl, wr_M12 hM hl, wr_M13 hM hl, wr_M14 hM hl, wr_M15 hM hl, wr_M16 hM hl, wr_M17 hM hl, wr_M18 hM hl, wr_M19 hM hl, wr_M20 hM hl, wr_M21 hM hl, wr_M22 hM hl, wr_M23 hM hl, wr_M24 hM hl, wr_M25 hM hl, sB_0, sB_c, u3_sB0, u3_sB, u3_s, u3_n, Nat.reduceLT, hnh, Jl0, Jl1, Jl2, Jl3, Jl4, Jl5, Jl6, Jl7, Jl8, Jl9, Jl10, Jl11, Jl12, Jl13, Jl14, Jl15, Jl16, Jl17, Jl18, Jl19, Jl20, Jl22, Jl24, Jl28, Jl30, Jl31, Jl32, Jl35, Jl36, Jl37, Jl38, Jl39, Jl40, Jl48, Jl57, Jl59, Jl60, Jl61, Jl63, Jl64, Jl68, Jl69, Jl96, Jl97, Jl98, Jl99, Jl100, Jl122, Jl149, Jl150, Jl165, Jl255, Jl511, Jl512, Jl600, Jl610, Jl940, Jl968, Jl999, Jl1134, Jl1152, Jl2048, Jl4608, Jl9999, Jl99999, Jl100000, Jl147456, Jl12345, Jl1103515245, Jl100000000, Jlm1, Jlm2, J_add, J_sub, J_mul, J_lt, J_le, J_eq, J_ite, J_cl, ri_j, wi_j, b2i_z, b2i_o, b2i_zo, Int.cast_ofNat_Int, Int.natCast_zero, Int.natCast_one, if_true, if_false, ite_self, Int.le_refl, J_bit, J_or, J_neg, J_oN, Int.reduceEq, Int.reduceLT, Int.reduceLE, Int.reduceNeg, Int.reduceAdd, Int.reduceSub, Int.reduceMul, Int.reduceToNat, J_shl, J_shr, V_ite, true_or, or_true, nz_j, J_div, J_rem, Option.bind_some, Option.toList_some, Option.toList_none, List.cons_append, List.nil_append, Jl21, Jl23, Jl25, Jl74, Jl83, Jl288, Jl324, Jl1800, Jlm8]
    repeat (first | rw [if_neg (by omega)] | rw [if_pos (by omega)])
    rw [show n + -1 = n - 1 by omega]
  | succ g ihg =>
    intro M hh uu ss row vs b q2 q3 hN h19 hg
    have hN1 := ND_19 (t := M 19 n + 1) hN
    obtain ⟨⟨hW, hL⟩, n2, n3, n4, n5, n6, n7, n8, n9, n10⟩ := id hN1
    have hnh := nH_sp (E := E) (lo := lo) (d := d) (I := I) (by omega) hM hW.1
    have ek : S 0 0 - ((g + 1 : Nat) : Int) + 1 = S 0 0 - g := by omega
    have hk : 0 ≤ S 0 0 - ((g + 1 : Nat) : Int) ∧ S 0 0 - ((g + 1 : Nat) : Int) < S 0 0 := by omega
    have e19 : u3 M 19 n (M 19 n + 1) 19 n = S 0 0 - g := by rw [u3_s]; omega
    rw [fr_s _ _ hk.2, ek]
    generalize hkk : S 0 0 - ((g + 1 : Nat) : Int) = k at *
    generalize hM1 : u3 M 19 n (M 19 n + 1) = M1 at *
    have r1 : ∀ c, c ≠ 19 → M1 c = M c := fun c q => by rw [← hM1, u3_c q]
    have r19 : ∀ j, j ≠ n → M1 19 j = M 19 j := fun j q => by rw [← hM1, u3_n (by omega)]
    have hdr := dr_sp (E := E) (lo := lo) (d := d) (I := I) (x := hh) (y := k) (by omega) hM hW.1 (by omega) (by omega)
    have vd := hV.2.1 (hh * 8 + k) (by omega) (by omega)
    have hin := in0_sp (E := E) (lo := lo) (d := d) (I := I) (n := n) (k := k) (by omega) hM (by omega) (by omega) n3
    have hin2 : an (fun j => decide (row j = k)) (n + 1) = tb vs k := by
      rw [Bool.eq_iff_iff, an_iff _ (by omega), n4 k (by omega) (by omega)]
      constructor
      · rintro ⟨i, a1, a2, a3⟩
        rw [decide_eq_true_eq] at a3
        exact ⟨i, a1, by omega, a3⟩
      · rintro ⟨i, a1, a2, a3⟩
        exact ⟨i, a1, by omega, by rw [decide_eq_true_eq]; exact a3⟩
    rw [hin2] at hin
    have h19k : M 19 n = k := h19
    -- nothing is gone to
    have idle : ∀ q3', sdG S L f n hh uu ss row vs k b = b → ex PG E lo d 246 19 [some (.ref m), some (.int (J (n))), q2, q3] [] (mj μ (sB I m 26 M)) = ex PG E lo d 246 19 [some (.ref m), some (.int (J (n))), some (.int (J (k))), q3'] [] (mj μ (sB I m 26 M1)) → ∃ M' q2' q3', ex PG E lo d 246 19 [some (.ref m), some (.int (J (n))), q2, q3] [] (mj μ (sB I m 26 M)) = ex PG E lo d 246 19 [some (.ref m), some (.int (J ((n - 1)))), q2', q3'] [] (mj μ (sB I m 26 M')) ∧ (RW M' S ∧ RL M' L) ∧ (M' 1 = M 1 ∧ M' 2 = M 2) ∧ (∀ j, 0 ≤ j → j < n → M' 15 j = M 15 j ∧ M' 17 j = M 17 j ∧ M' 18 j = M 18 j ∧ M' 19 j = M 19 j) ∧ BST M' (fr (sdG S L f n hh uu ss row vs) (sdG S L f n hh uu ss row vs k b) (S 0 0 - g) (S 0 0)) ∧ (0 < (fr (sdG S L f n hh uu ss row vs) (sdG S L f n hh uu ss row vs k b) (S 0 0 - g) (S 0 0)).2.1 ∧ (fr (sdG S L f n hh uu ss row vs) (sdG S L f n hh uu ss row vs k b) (S 0 0 - g) (S 0 0)).2.1 ≤ 8) ∧ (-1 ≤ (fr (sdG S L f n hh uu ss row vs) (sdG S L f n hh uu ss row vs k b) (S 0 0 - g) (S 0 0)).1 ∧ (fr (sdG S L f n hh uu ss row vs) (sdG S L f n hh uu ss row vs k b) (S 0 0 - g) (S 0 0)).1 ≤ 72000) := by
      intro q3' he hx
      obtain ⟨M', q2', q3'', e, y1, y2, y3, y4⟩ := ihg M1 hh uu ss row vs b (some (.int (J k))) q3' hN1 e19 (by omega)
      rw [he]
      refine ⟨M', q2', q3'', by rw [hx, e], y1, ⟨by rw [y2.1, r1 1 (by decide)], by rw [y2.2, r1 2 (by decide)]⟩, fun j a1 a2 => ?_, y4⟩
      obtain ⟨z1, z2, z3, z4⟩ := y3 j a1 a2
      exact ⟨by rw [z1, r1 15 (by decide)], by rw [z2, r1 17 (by decide)], by rw [z3, r1 18 (by decide)], by rw [z4, r19 j (by omega)]⟩
    have hM1k : u3 M 19 n (k + 1) = M1 := by rw [← h19k]; exact hM1
    by_cases c1 : S 1 (hh * 8 + k) = 0
    · refine idle (some (.int (J 0))) ?_ ?_
      · unfold sdG
        rw [if_neg (fun q => q.1 c1)]
      · rw [b246_19]
        simp (disch := omega) only [b246_23, b246_40, b246_45, b246_54, b246_65, gO_M hM, gR_M0 hM, gR_M1 hM, gR_M11 hM, gR_M13 hM, gR_M14 hM, gR_M15 hM, gR_M16 hM, gR_M17 hM, gR_M22 hM, gR_M32 hM, gR_M33 hM, gR_M34 hM, gR_M35 hM, gR_M36 hM, gR_M37 hM, gR_M38 hM, gR_M41 hM, gR_M42 hM, gR_M43 hM, gR_M45 hM, gR_M46 hM, gR_M47 hM, gR_M50 hM, gR_M51 hM, gR_M52 hM, al_M1 hM, al_M2 hM, al_M3 hM, al_M4 hM, al_M5 hM, al_M6 hM, al_M7 hM, al_M8 hM, al_M9 hM, al_M10 hM, al_M11 hM, al_M12 hM, al_M13 hM, al_M14 hM, al_M15 hM, al_M16 hM, al_M17 hM, al_M18 hM, al_M19 hM, al_M20 hM, al_M21 hM, al_M22 hM, al_M23 hM, al_M24 hM, al_M25 hM, rd_M1 hM, rd_M2 hM, rd_M3 hM, rd_M4 hM, rd_M5 hM, rd_M6 hM, rd_M7 hM, rd_M8 hM, rd_M9 hM, rd_M10 hM, rd_M11 hM, rd_M12 hM, rd_M13 hM, rd_M14 hM, rd_M15 hM, rd_M16 hM, rd_M17 hM, rd_M18 hM, rd_M19 hM, rd_M20 hM, rd_M21 hM, rd_M22 hM, rd_M23 hM, rd_M24 hM, rd_M25 hM, gP_M hM hl, wr_M1 hM hl, wr_M2 hM hl, wr_M3 hM hl, wr_M4 hM hl, wr_M5 hM hl, wr_M6 hM hl, wr_M7 hM hl, wr_M8 hM hl, wr_M9 hM hl, wr_M10 hM hl, wr_M11 hM hl, wr_M12 hM hl, wr_M13 hM hl, wr_M14 hM hl, wr_M15 hM hl, wr_M16 hM hl, wr_M17 hM hl, wr_M18 hM hl, wr_M19 hM hl, wr_M20 hM hl, wr_M21 hM hl, wr_M22 hM hl, wr_M23 hM hl, wr_M24 hM hl, wr_M25 hM hl, sB_0, sB_c, u3_sB0, u3_sB, u3_s, u3_n, Nat.reduceLT, h19k, hM1k, hnh, n2.1, hdr, c1, Jl0, Jl1, Jl2, Jl3, Jl4, Jl5, Jl6, Jl7, Jl8, Jl9, Jl10, Jl11, Jl12, Jl13, Jl14, Jl15, Jl16, Jl17, Jl18, Jl19, Jl20, Jl22, Jl24, Jl28, Jl30, Jl31, Jl32, Jl35, Jl36, Jl37, Jl38, Jl39, Jl40, Jl48, Jl57, Jl59, Jl60, Jl61, Jl63, Jl64, Jl68, Jl69, Jl96, Jl97, Jl98, Jl99, Jl100, Jl122, Jl149, Jl150, Jl165, Jl255, Jl511, Jl512, Jl600, Jl610, Jl940, Jl968, Jl999, Jl1134, Jl1152, Jl2048, Jl4608, Jl9999, Jl99999, Jl100000, Jl147456, Jl12345, Jl1103515245, Jl100000000, Jlm1, Jlm2, J_add, J_sub, J_mul, J_lt, J_le, J_eq, J_ite, J_cl, ri_j, wi_j, b2i_z, b2i_o, b2i_zo, Int.cast_ofNat_Int, Int.natCast_zero, Int.natCast_one, if_true, if_false, ite_self, Int.le_refl, J_bit, J_or, J_neg, J_oN, Int.reduceEq, Int.reduceLT, Int.reduceLE, Int.reduceNeg, Int.reduceAdd, Int.reduceSub, Int.reduceMul, Int.reduceToNat, J_shl, J_shr, V_ite, true_or, or_true, nz_j, J_div, J_rem, Option.bind_some, Option.toList_some, Option.toList_none, List.cons_append, List.nil_append, Jl21, Jl23, Jl25, Jl74, Jl83, Jl288, Jl324, Jl1800, Jlm8]
        repeat (first | rw [if_neg (by omega)] | rw [if_pos (by omega)])
    · cases c2 : tb vs k
      · rw [c2] at hin
        by_cases c3 : uu + S 1 (hh * 8 + k) ≤ 35
        · -- gone to
          have pk := p2_0 k
          have pkl := p2_le (k := k + 1) (m := S 0 0) (by omega)
          rw [p2_s hk.1] at pkl
          have sob := so_p2 (s := vs) (t := p2 k) (k := S 0 0) ⟨n5.1, n5.2.1⟩ (by omega)
          have bca := bc_add (s := vs) (b := k) n5.1 (by omega) c2
          have bcl := bc_le (s := so vs (p2 k)) (n := S 0 0) sob (by omega)
          obtain ⟨f', rfl⟩ : ∃ f', f = f' + 1 := ⟨f - 1, by omega⟩
          have chb := chQ_b hV hLV (h := k) (u := uu + S 1 (hh * 8 + k)) (by omega)
          obtain ⟨M2, e2, x1, x2, x3, x4, x5⟩ := com2_sp (E := E) (lo := lo) (d := d) (I := I) (M := M1) (n := n + 1) (h := k) (u := uu + S 1 (hh * 8 + k)) (s := ss) (b := b) (row := row) (by omega) hM hl hW hV hL hLV (by omega) (by omega) (by omega) (by omega) n6 (by omega) (fun _ => by omega) (fun j a1 a2 => (n3 j a1 (by omega)).1)
          generalize hcq : chQ S L k (uu + S 1 (hh * 8 + k)) = cq at *
          have hb0 : (if b.2.1 = 0 ∨ b.1 < ss + cq then (ss + cq, n + 1 + 1, u1 row (n + 1) k) else b) = if b.1 < ss + cq then (ss + cq, n + 1 + 1, u1 row (n + 1) k) else b := by
            have : ¬ b.2.1 = 0 := by omega
            simp only [this, false_or]
          rw [hb0] at x5
          have hN2 : ND S L M2 (n + 1) k (uu + S 1 (hh * 8 + k)) (ss + cq) (u1 row (n + 1) k) (so vs (p2 k)) (if b.1 < ss + cq then (ss + cq, n + 1 + 1, u1 row (n + 1) k) else b) := by
            refine ⟨⟨x1, x2⟩, ⟨by rw [x4.1, if_pos rfl], by rw [x4.2.1, if_pos rfl], by rw [x4.2.2.1, if_pos rfl]⟩, fun j a1 a2 => ?_, fun k' a1 a2 => ?_, ⟨sob.1, sob.2, by omega⟩, x5, ?_, by omega, by omega, ?_⟩
            · rw [x4.1]
              unfold u1
              by_cases cj : j = n + 1
              · rw [if_pos cj, if_pos cj]; omega
              · rw [if_neg cj, if_neg cj]; exact n3 j a1 (by omega)
            · rw [tb_so _ _ _ n5.1 (by omega), tb_p2 hk.1 a1, Bool.or_eq_true, decide_eq_true_eq, n4 k' a1 a2]
              constructor
              · rintro (⟨j, z1, z2, z3⟩ | z)
                · exact ⟨j, z1, by omega, by rw [u1_n (by omega)]; exact z3⟩
                · exact ⟨n + 1, by omega, by omega, by rw [u1_s]; exact z⟩
              · rintro ⟨j, z1, z2, z3⟩
                by_cases cj : j = n + 1
                · rw [cj, u1_s] at z3; exact Or.inr z3
                · rw [u1_n cj] at z3; exact Or.inl ⟨j, z1, by omega, z3⟩
            · split
              · dsimp only; omega
              · exact n7
            · split
              · dsimp only; omega
              · exact n10
          obtain ⟨M3, q2', q3', e3, y1, y2, y3, y4, y5, y6⟩ := hch f' rfl (S 0 0).toNat M2 k (uu + S 1 (hh * 8 + k)) (ss + cq) (u1 row (n + 1) k) (so vs (p2 k)) (if b.1 < ss + cq then (ss + cq, n + 1 + 1, u1 row (n + 1) k) else b) (some (.int (J k))) (some (.int (J (S 1 (hh * 8 + k))))) hN2 (by rw [x4.2.2.2, if_pos rfl]; omega) (by omega)
          rw [show S 0 0 - ((S 0 0).toNat : Int) = 0 by omega, fr_0] at y4 y5 y6
          have hdf : fo (sdG S L f' (n + 1) k (uu + S 1 (hh * 8 + k)) (ss + cq) (u1 row (n + 1) k) (so vs (p2 k))) (if b.1 < ss + cq then (ss + cq, n + 1 + 1, u1 row (n + 1) k) else b) (S 0 0) = sdG S L (f' + 1) n hh uu ss row vs k b := by
            have : sdG S L (f' + 1) n hh uu ss row vs k b = sdF S (chQ S L) (f' + 1) (n + 1) k (uu + S 1 (hh * 8 + k)) vs ss row b := if_pos ⟨c1, c3, c2⟩
            rw [this, ← hcq]
            rfl
          rw [hdf] at y4 y5 y6
          rw [show n + 1 - 1 = n by omega] at e3
          have f15 : ∀ j, 0 ≤ j → j ≤ n → M3 15 j = M1 15 j ∧ M3 17 j = M1 17 j ∧ M3 18 j = M1 18 j ∧ M3 19 j = M1 19 j := by
            intro j a1 a2
            obtain ⟨z1, z2, z3, z4⟩ := y3 j a1 (by omega)
            refine ⟨?_, ?_, ?_, ?_⟩
            · rw [z1, x4.1, if_neg (by omega)]
            · rw [z2, x4.2.1, if_neg (by omega)]
            · rw [z3, x4.2.2.1, if_neg (by omega)]
            · rw [z4, x4.2.2.2, if_neg (by omega)]
          obtain ⟨z1, z2, z3, z4⟩ := f15 n hn0 (Int.le_refl n)
          have hN3 : ND S L M3 n hh uu ss row vs (sdG S L (f' + 1) n hh uu ss row vs k b) := ⟨y1, ⟨by rw [z1]; exact n2.1, by rw [z2]; exact n2.2.1, by rw [z3]; exact n2.2.2⟩, fun j a1 a2 => by rw [(f15 j a1 a2).1]; exact n3 j a1 a2, n4, n5, y4, y5, n8, n9, y6⟩
          obtain ⟨M', q2'', q3'', e, w1, w2, w3, w4⟩ := ihg M3 hh uu ss row vs _ q2' q3' hN3 (by rw [z4]; exact e19) (by omega)
          refine ⟨M', q2'', q3'', ?_, w1, ⟨by rw [w2.1, y2.1, x3.1, r1 1 (by decide)], by rw [w2.2, y2.2, x3.2, r1 2 (by decide)]⟩, fun j a1 a2 => ?_, w4⟩
          · rw [← e, ← e3, b246_19]
            simp (disch := omega) only [b246_23, b246_40, b246_45, b246_54, b246_65, b246_70, b246_76, b246_79, b246_95, b246_117, gO_M hM, gR_M0 hM, gR_M1 hM, gR_M11 hM, gR_M13 hM, gR_M14 hM, gR_M15 hM, gR_M16 hM, gR_M17 hM, gR_M22 hM, gR_M32 hM, gR_M33 hM, gR_M34 hM, gR_M35 hM, gR_M36 hM, gR_M37 hM, gR_M38 hM, gR_M41 hM, gR_M42 hM, gR_M43 hM, gR_M45 hM, gR_M46 hM, gR_M47 hM, gR_M50 hM, gR_M51 hM, gR_M52 hM, al_M1 hM, al_M2 hM, al_M3 hM, al_M4 hM, al_M5 hM, al_M6 hM, al_M7 hM, al_M8 hM, al_M9 hM, al_M10 hM, al_M11 hM, al_M12 hM, al_M13 hM, al_M14 hM, al_M15 hM, al_M16 hM, al_M17 hM, al_M18 hM, al_M19 hM, al_M20 hM, al_M21 hM, al_M22 hM, al_M23 hM, al_M24 hM, al_M25 hM, rd_M1 hM, rd_M2 hM, rd_M3 hM, rd_M4 hM, rd_M5 hM, rd_M6 hM, rd_M7 hM, rd_M8 hM, rd_M9 hM, rd_M10 hM, rd_M11 hM, rd_M12 hM, rd_M13 hM, rd_M14 hM, rd_M15 hM, rd_M16 hM, rd_M17 hM, rd_M18 hM, rd_M19 hM, rd_M20 hM, rd_M21 hM, rd_M22 hM, rd_M23 hM, rd_M24 hM, rd_M25 hM, gP_M hM hl, wr_M1 hM hl, wr_M2 hM hl, wr_M3 hM hl, wr_M4 hM hl, wr_M5 hM hl, wr_M6 hM hl, wr_M7 hM hl, wr_M8 hM hl, wr_M9 hM hl, wr_M10 hM hl, wr_M11 hM hl, wr_M12 hM hl, wr_M13 hM hl, wr_M14 hM hl, wr_M15 hM hl, wr_M16 hM hl, wr_M17 hM hl, wr_M18 hM hl, wr_M19 hM hl, wr_M20 hM hl, wr_M21 hM hl, wr_M22 hM hl, wr_M23 hM hl, wr_M24 hM hl, wr_M25 hM hl, sB_0, sB_c, u3_sB0, u3_sB, u3_s, u3_n, Nat.reduceLT, h19k, hM1k, hnh, n2.1, n2.2.1, n2.2.2, hdr, c1, hin, c3, e2, Jl0, Jl1, Jl2, Jl3, Jl4, Jl5, Jl6, Jl7, Jl8, Jl9, Jl10, Jl11, Jl12, Jl13, Jl14, Jl15, Jl16, Jl17, Jl18, Jl19, Jl20, Jl22, Jl24, Jl28, Jl30, Jl31, Jl32, Jl35, Jl36, Jl37, Jl38, Jl39, Jl40, Jl48, Jl57, Jl59, Jl60, Jl61, Jl63, Jl64, Jl68, Jl69, Jl96, Jl97, Jl98, Jl99, Jl100, Jl122, Jl149, Jl150, Jl165, Jl255, Jl511, Jl512, Jl600, Jl610, Jl940, Jl968, Jl999, Jl1134, Jl1152, Jl2048, Jl4608, Jl9999, Jl99999, Jl100000, Jl147456, Jl12345, Jl1103515245, Jl100000000, Jlm1, Jlm2, J_add, J_sub, J_mul, J_lt, J_le, J_eq, J_ite, J_cl, ri_j, wi_j, b2i_z, b2i_o, b2i_zo, Int.cast_ofNat_Int, Int.natCast_zero, Int.natCast_one, if_true, if_false, ite_self, Int.le_refl, J_bit, J_or, J_neg, J_oN, Int.reduceEq, Int.reduceLT, Int.reduceLE, Int.reduceNeg, Int.reduceAdd, Int.reduceSub, Int.reduceMul, Int.reduceToNat, J_shl, J_shr, V_ite, true_or, or_true, nz_j, J_div, J_rem, Option.bind_some, Option.toList_some, Option.toList_none, List.cons_append, List.nil_append, Jl21, Jl23, Jl25, Jl74, Jl83, Jl288, Jl324, Jl1800, Jlm8]
            repeat (first | rw [if_neg (by omega)] | rw [if_pos (by omega)])
          · obtain ⟨t1, t2, t3, t4⟩ := w3 j a1 a2
            obtain ⟨t5, t6, t7, t8⟩ := f15 j a1 (by omega)
            exact ⟨by rw [t1, t5, r1 15 (by decide)], by rw [t2, t6, r1 17 (by decide)], by rw [t3, t7, r1 18 (by decide)], by rw [t4, t8, r19 j (by omega)]⟩
        · refine idle (some (.int (J (S 1 (hh * 8 + k))))) ?_ ?_
          · unfold sdG
            rw [if_neg (fun q => c3 q.2.1)]
          · rw [b246_19]
            simp (disch := omega) only [b246_23, b246_40, b246_45, b246_54, b246_65, b246_70, b246_76, b246_79, b246_92, gO_M hM, gR_M0 hM, gR_M1 hM, gR_M11 hM, gR_M13 hM, gR_M14 hM, gR_M15 hM, gR_M16 hM, gR_M17 hM, gR_M22 hM, gR_M32 hM, gR_M33 hM, gR_M34 hM, gR_M35 hM, gR_M36 hM, gR_M37 hM, gR_M38 hM, gR_M41 hM, gR_M42 hM, gR_M43 hM, gR_M45 hM, gR_M46 hM, gR_M47 hM, gR_M50 hM, gR_M51 hM, gR_M52 hM, al_M1 hM, al_M2 hM, al_M3 hM, al_M4 hM, al_M5 hM, al_M6 hM, al_M7 hM, al_M8 hM, al_M9 hM, al_M10 hM, al_M11 hM, al_M12 hM, al_M13 hM, al_M14 hM, al_M15 hM, al_M16 hM, al_M17 hM, al_M18 hM, al_M19 hM, al_M20 hM, al_M21 hM, al_M22 hM, al_M23 hM, al_M24 hM, al_M25 hM, rd_M1 hM, rd_M2 hM, rd_M3 hM, rd_M4 hM, rd_M5 hM, rd_M6 hM, rd_M7 hM, rd_M8 hM, rd_M9 hM, rd_M10 hM, rd_M11 hM, rd_M12 hM, rd_M13 hM, rd_M14 hM, rd_M15 hM, rd_M16 hM, rd_M17 hM, rd_M18 hM, rd_M19 hM, rd_M20 hM, rd_M21 hM, rd_M22 hM, rd_M23 hM, rd_M24 hM, rd_M25 hM, gP_M hM hl, wr_M1 hM hl, wr_M2 hM hl, wr_M3 hM hl, wr_M4 hM hl, wr_M5 hM hl, wr_M6 hM hl, wr_M7 hM hl, wr_M8 hM hl, wr_M9 hM hl, wr_M10 hM hl, wr_M11 hM hl, wr_M12 hM hl, wr_M13 hM hl, wr_M14 hM hl, wr_M15 hM hl, wr_M16 hM hl, wr_M17 hM hl, wr_M18 hM hl, wr_M19 hM hl, wr_M20 hM hl, wr_M21 hM hl, wr_M22 hM hl, wr_M23 hM hl, wr_M24 hM hl, wr_M25 hM hl, sB_0, sB_c, u3_sB0, u3_sB, u3_s, u3_n, Nat.reduceLT, h19k, hM1k, hnh, n2.1, n2.2.1, hdr, c1, hin, c3, Jl0, Jl1, Jl2, Jl3, Jl4, Jl5, Jl6, Jl7, Jl8, Jl9, Jl10, Jl11, Jl12, Jl13, Jl14, Jl15, Jl16, Jl17, Jl18, Jl19, Jl20, Jl22, Jl24, Jl28, Jl30, Jl31, Jl32, Jl35, Jl36, Jl37, Jl38, Jl39, Jl40, Jl48, Jl57, Jl59, Jl60, Jl61, Jl63, Jl64, Jl68, Jl69, Jl96, Jl97, Jl98, Jl99, Jl100, Jl122, Jl149, Jl150, Jl165, Jl255, Jl511, Jl512, Jl600, Jl610, Jl940, Jl968, Jl999, Jl1134, Jl1152, Jl2048, Jl4608, Jl9999, Jl99999, Jl100000, Jl147456, Jl12345, Jl1103515245, Jl100000000, Jlm1, Jlm2, J_add, J_sub, J_mul, J_lt, J_le, J_eq, J_ite, J_cl, ri_j, wi_j, b2i_z, b2i_o, b2i_zo, Int.cast_ofNat_Int, Int.natCast_zero, Int.natCast_one, if_true, if_false, ite_self, Int.le_refl, J_bit, J_or, J_neg, J_oN, Int.reduceEq, Int.reduceLT, Int.reduceLE, Int.reduceNeg, Int.reduceAdd, Int.reduceSub, Int.reduceMul, Int.reduceToNat, J_shl, J_shr, V_ite, true_or, or_true, nz_j, J_div, J_rem, Option.bind_some, Option.toList_some, Option.toList_none, List.cons_append, List.nil_append, Jl21, Jl23, Jl25, Jl74, Jl83, Jl288, Jl324, Jl1800, Jlm8]
            repeat (first | rw [if_neg (by omega)] | rw [if_pos (by omega)])
      · rw [c2] at hin
        refine idle (some (.int (J (S 1 (hh * 8 + k))))) ?_ ?_
        · unfold sdG
          rw [if_neg (fun q => by rw [c2] at q; cases q.2.2)]
        · rw [b246_19]
          simp (disch := omega) only [b246_23, b246_40, b246_45, b246_54, b246_65, b246_70, b246_76, gO_M hM, gR_M0 hM, gR_M1 hM, gR_M11 hM, gR_M13 hM, gR_M14 hM, gR_M15 hM, gR_M16 hM, gR_M17 hM, gR_M22 hM, gR_M32 hM, gR_M33 hM, gR_M34 hM, gR_M35 hM, gR_M36 hM, gR_M37 hM, gR_M38 hM, gR_M41 hM, gR_M42 hM, gR_M43 hM, gR_M45 hM, gR_M46 hM, gR_M47 hM, gR_M50 hM, gR_M51 hM, gR_M52 hM, al_M1 hM, al_M2 hM, al_M3 hM, al_M4 hM, al_M5 hM, al_M6 hM, al_M7 hM, al_M8 hM, al_M9 hM, al_M10 hM, al_M11 hM, al_M12 hM, al_M13 hM, al_M14 hM, al_M15 hM, al_M16 hM, al_M17 hM, al_M18 hM, al_M19 hM, al_M20 hM, al_M21 hM, al_M22 hM, al_M23 hM, al_M24 hM, al_M25 hM, rd_M1 hM, rd_M2 hM, rd_M3 hM, rd_M4 hM, rd_M5 hM, rd_M6 hM, rd_M7 hM, rd_M8 hM, rd_M9 hM, rd_M10 hM, rd_M11 hM, rd_M12 hM, rd_M13 hM, rd_M14 hM, rd_M15 hM, rd_M16 hM, rd_M17 hM, rd_M18 hM, rd_M19 hM, rd_M20 hM, rd_M21 hM, rd_M22 hM, rd_M23 hM, rd_M24 hM, rd_M25 hM, gP_M hM hl, wr_M1 hM hl, wr_M2 hM hl, wr_M3 hM hl, wr_M4 hM hl, wr_M5 hM hl, wr_M6 hM hl, wr_M7 hM hl, wr_M8 hM hl, wr_M9 hM hl, wr_M10 hM hl, wr_M11 hM hl, wr_M12 hM hl, wr_M13 hM hl, wr_M14 hM hl, wr_M15 hM hl, wr_M16 hM hl, wr_M17 hM hl, wr_M18 hM hl, wr_M19 hM hl, wr_M20 hM hl, wr_M21 hM hl, wr_M22 hM hl, wr_M23 hM hl, wr_M24 hM hl, wr_M25 hM hl, sB_0, sB_c, u3_sB0, u3_sB, u3_s, u3_n, Nat.reduceLT, h19k, hM1k, hnh, n2.1, hdr, c1, hin, Bool.true_eq_false, Jl0, Jl1, Jl2, Jl3, Jl4, Jl5, Jl6, Jl7, Jl8, Jl9, Jl10, Jl11, Jl12, Jl13, Jl14, Jl15, Jl16, Jl17, Jl18, Jl19, Jl20, Jl22, Jl24, Jl28, Jl30, Jl31, Jl32, Jl35, Jl36, Jl37, Jl38, Jl39, Jl40, Jl48, Jl57, Jl59, Jl60, Jl61, Jl63, Jl64, Jl68, Jl69, Jl96, Jl97, Jl98, Jl99, Jl100, Jl122, Jl149, Jl150, Jl165, Jl255, Jl511, Jl512, Jl600, Jl610, Jl940, Jl968, Jl999, Jl1134, Jl1152, Jl2048, Jl4608, Jl9999, Jl99999, Jl100000, Jl147456, Jl12345, Jl1103515245, Jl100000000, Jlm1, Jlm2, J_add, J_sub, J_mul, J_lt, J_le, J_eq, J_ite, J_cl, ri_j, wi_j, b2i_z, b2i_o, b2i_zo, Int.cast_ofNat_Int, Int.natCast_zero, Int.natCast_one, if_true, if_false, ite_self, Int.le_refl, J_bit, J_or, J_neg, J_oN, Int.reduceEq, Int.reduceLT, Int.reduceLE, Int.reduceNeg, Int.reduceAdd, Int.reduceSub, Int.reduceMul, Int.reduceToNat, J_shl, J_shr, V_ite, true_or, or_true, nz_j, J_div, J_rem, Option.bind_some, Option.toList_some, Option.toList_none, List.cons_append, List.nil_append, Jl21, Jl23, Jl25, Jl74, Jl83, Jl288, Jl324, Jl1800, Jlm8]
          repeat (first | rw [if_neg (by omega)] | rw [if_pos (by omega)])
theorem sel_all (hd : 9 ≤ d) (hM : ShM μ m) (hl : lo ≤ m) (hV : SV S) (hLV : LV L) : ∀ (f : Nat), f ≤ 7 → SP E lo d m μ I S L f (7 - f) := by
  intro f
  induction f with
  | zero => intro _; exact sel_in hd hM hl hV hLV rfl (by omega) (fun f' q => by omega)
  | succ f ih =>
    intro hf
    refine sel_in hd hM hl hV hLV rfl (by omega) (fun f' q => ?_)
    obtain rfl : f = f' := by omega
    have := ih (by omega)
    rwa [show 7 - ((f + 1 : Nat) : Int) + 1 = 7 - (f : Int) by omega]
/-- what is sold -/
def sldQ (S L : Nat → Int → Int) : Int × Int × (Int → Int) := sdF S (chQ S L) 8 0 0 0 0 0 (fun _ => 0) (-1, 0, fun _ => 0)
theorem sel_sp (hd : 10 ≤ d) (hM : ShM μ m) (hl : lo ≤ m) (hV : SV S) (hLV : LV L) (hR : RS M S) (hB : RBS M S) (hL : RL M L) : ∃ M', cl E lo d 246 [.ref m] (mj μ (sB I m 26 M)) = some (none, mj μ (sB I m 26 M')) ∧ (M' 1 = M 1 ∧ M' 2 = M 2) ∧ BST M' (sldQ S L) ∧ (0 < (sldQ S L).2.1 ∧ (sldQ S L).2.1 ≤ 8) := by
  obtain ⟨d, rfl⟩ : ∃ e, d = e + 1 := ⟨d - 1, by omega⟩
  have v := hV.1
  have pp := p2_256 hV
  have hnw := nw_sp (E := E) (lo := lo) (d := d) (I := I) (M := M) (by omega) hM hl
  have hW0 := RW_n hR hB
  have hL0 : RL (sA M 9 (flr (M 9) 0 9 (-1))) L := hL.fr (by rw [sA_n (by decide)]) (sA_n (by decide))
  generalize hMa : u3 (sA M 9 (flr (M 9) 0 9 (-1))) 0 39 0 = Ma
  have a1 : ∀ c, c ≠ 0 → c ≠ 9 → Ma c = M c := fun c q0 q9 => by rw [← hMa, u3_c q0, sA_n q9]
  have hWa : RW Ma S := by
    rw [← hMa]
    refine ⟨hW0.1.fr (by simp [u3]) (by simp [u3]) (by funext x; simp [u3]) (by funext x; simp [u3]) (by funext x; simp [u3]) (by funext x; simp [u3]) (by funext x; simp [u3]), ?_, by rw [u3_c (by decide)]; exact hW0.2.2⟩
    have := hW0.2.1
    unfold RBS at *
    rw [u3_n (by omega), u3_n (by omega), u3_c (by decide)]
    exact this
  have hLa : RL Ma L := by rw [← hMa]; exact hL0.fr (by simp [u3]) (by funext x; simp [u3])
  have cb := chQ_b hV hLV (h := 0) (u := 0) (by omega)
  obtain ⟨M2, e2, x1, x2, x3, x4, x5⟩ := com2_sp (E := E) (lo := lo) (d := d) (I := I) (M := Ma) (n := 0) (h := 0) (u := 0) (s := 0) (b := (Ma 0 40, 0, fun _ => 0)) (row := fun _ => 0) (by omega) hM hl hWa hV hLa hLV (by omega) (by omega) (by omega) (by omega) ⟨rfl, by rw [← hMa]; exact u3_s, fun i q1 q2 => by dsimp only at q2; omega⟩ (by dsimp only; omega) (fun q => absurd rfl q) (fun j q1 q2 => by omega)
  rw [if_pos (Or.inl rfl)] at x5
  have so1 : so 0 (p2 0) = 1 := by decide
  have hN : ND S L M2 0 0 0 (0 + chQ S L 0 0) (u1 (fun _ => 0) 0 0) (so 0 (p2 0)) (0 + chQ S L 0 0, 0 + 1, u1 (fun _ => 0) 0 0) := by
    refine ⟨⟨x1, x2⟩, ⟨by rw [x4.1, if_pos rfl], by rw [x4.2.1, if_pos rfl], by rw [x4.2.2.1, if_pos rfl]⟩, fun j q1 q2 => ?_, fun k q1 q2 => ?_, ⟨by rw [so1]; omega, by rw [so1]; omega, by rw [so1]; decide⟩, x5, by dsimp only; omega, by omega, by omega, by dsimp only; omega⟩
    · obtain rfl : j = 0 := by omega
      rw [x4.1, if_pos rfl, u1_s]; omega
    · rw [show so 0 (p2 0) = p2 0 by decide, tb_p2 (by omega) q1, decide_eq_true_eq]
      constructor
      · intro q; exact ⟨0, by omega, by omega, by rw [u1_s]; exact q⟩
      · rintro ⟨j, z1, z2, z3⟩
        obtain rfl : j = 0 := by omega
        rw [u1_s] at z3; exact z3
  obtain ⟨M3, q2', q3', e3, y1, y2, y3, y4, y5, y6⟩ := sel_all (E := E) (lo := lo) (d := d) (I := I) (by omega) hM hl hV hLV 7 (by omega) (S 0 0).toNat M2 0 0 (0 + chQ S L 0 0) (u1 (fun _ => 0) 0 0) (so 0 (p2 0)) (0 + chQ S L 0 0, 0 + 1, u1 (fun _ => 0) 0 0) none none hN (by show M2 19 0 = _; rw [x4.2.2.2, if_pos rfl]; omega) (by omega)
  rw [show S 0 0 - ((S 0 0).toNat : Int) = 0 by omega, fr_0] at y4 y5
  have hdf : fo (sdG S L 7 (7 - ((7 : Nat) : Int)) 0 0 (0 + chQ S L 0 0) (u1 (fun _ => 0) 0 0) (so 0 (p2 0))) (0 + chQ S L 0 0, 0 + 1, u1 (fun _ => 0) 0 0) (S 0 0) = sldQ S L := by
    have : (if ((-1 : Int), (0 : Int), (fun _ => 0 : Int → Int)).1 < 0 + chQ S L 0 0 then (0 + chQ S L 0 0, (0 : Int) + 1, u1 (fun _ => 0) 0 0) else ((-1 : Int), (0 : Int), (fun _ => 0 : Int → Int))) = (0 + chQ S L 0 0, 0 + 1, u1 (fun _ => 0) 0 0) := if_pos (by dsimp only; omega)
    rw [← this]
    rfl
  rw [hdf] at y4 y5
  refine ⟨M3, ?_, ⟨by rw [y2.1, x3.1, a1 1 (by decide) (by decide)], by rw [y2.2, x3.2, a1 2 (by decide) (by decide)]⟩, y4, y5⟩
  simp (disch := omega) only [b246_0, b246_4, b246_9, b246_17, e246, gO_M hM, gR_M0 hM, gR_M1 hM, gR_M11 hM, gR_M13 hM, gR_M14 hM, gR_M15 hM, gR_M16 hM, gR_M17 hM, gR_M22 hM, gR_M32 hM, gR_M33 hM, gR_M34 hM, gR_M35 hM, gR_M36 hM, gR_M37 hM, gR_M38 hM, gR_M41 hM, gR_M42 hM, gR_M43 hM, gR_M45 hM, gR_M46 hM, gR_M47 hM, gR_M50 hM, gR_M51 hM, gR_M52 hM, al_M1 hM, al_M2 hM, al_M3 hM, al_M4 hM, al_M5 hM, al_M6 hM, al_M7 hM, al_M8 hM, al_M9 hM, al_M10 hM, al_M11 hM, al_M12 hM, al_M13 hM, al_M14 hM, al_M15 hM, al_M16 hM, al_M17 hM, al_M18 hM, al_M19 hM, al_M20 hM, al_M21 hM, al_M22 hM, al_M23 hM, al_M24 hM, al_M25 hM, rd_M1 hM, rd_M2 hM, rd_M3 hM, rd_M4 hM, rd_M5 hM, rd_M6 hM, rd_M7 hM, rd_M8 hM, rd_M9 hM, rd_M10 hM, rd_M11 hM, rd_M12 hM, rd_M13 hM, rd_M14 hM, rd_M15 hM, rd_M16 hM, rd_M17 hM, rd_M18 hM, rd_M19 hM, rd_M20 hM, rd_M21 hM, rd_M22 hM, rd_M23 hM, rd_M24 hM, rd_M25 hM, gP_M hM hl, wr_M1 hM hl, wr_M2 hM hl, wr_M3 hM hl, wr_M4 hM hl, wr_M5 hM hl, wr_M6 hM hl, wr_M7 hM hl, wr_M8 hM hl, wr_M9 hM hl, wr_M10 hM hl, wr_M11 hM hl, wr_M12 hM hl, wr_M13 hM hl, wr_M14 hM hl, wr_M15 hM hl, wr_M16 hM hl, wr_M17 hM hl, wr_M18 hM hl, wr_M19 hM hl, wr_M20 hM hl, wr_M21 hM hl, wr_M22 hM hl, wr_M23 hM hl, wr_M24 hM hl, wr_M25 hM hl, sB_0, sB_c, u3_sB0, u3_sB, u3_s, u3_n, Nat.reduceLT, hnw, hMa, e2, Jl0, Jl1, Jl2, Jl3, Jl4, Jl5, Jl6, Jl7, Jl8, Jl9, Jl10, Jl11, Jl12, Jl13, Jl14, Jl15, Jl16, Jl17, Jl18, Jl19, Jl20, Jl22, Jl24, Jl28, Jl30, Jl31, Jl32, Jl35, Jl36, Jl37, Jl38, Jl39, Jl40, Jl48, Jl57, Jl59, Jl60, Jl61, Jl63, Jl64, Jl68, Jl69, Jl96, Jl97, Jl98, Jl99, Jl100, Jl122, Jl149, Jl150, Jl165, Jl255, Jl511, Jl512, Jl600, Jl610, Jl940, Jl968, Jl999, Jl1134, Jl1152, Jl2048, Jl4608, Jl9999, Jl99999, Jl100000, Jl147456, Jl12345, Jl1103515245, Jl100000000, Jlm1, Jlm2, J_add, J_sub, J_mul, J_lt, J_le, J_eq, J_ite, J_cl, ri_j, wi_j, b2i_z, b2i_o, b2i_zo, Int.cast_ofNat_Int, Int.natCast_zero, Int.natCast_one, if_true, if_false, ite_self, Int.le_refl, J_bit, J_or, J_neg, J_oN, Int.reduceEq, Int.reduceLT, Int.reduceLE, Int.reduceNeg, Int.reduceAdd, Int.reduceSub, Int.reduceMul, Int.reduceToNat, J_shl, J_shr, V_ite, true_or, or_true, nz_j, J_div, J_rem, Option.bind_some, Option.toList_some, Option.toList_none, List.cons_append, List.nil_append, Jl21, Jl23, Jl25, Jl74, Jl83, Jl288, Jl324, Jl1800, Jlm8]
  refine e3.trans ?_
  rw [b246_19]
  simp (disch := omega) only [b246_123, Jl0, Jl1, Jl2, Jl3, Jl4, Jl5, Jl6, Jl7, Jl8, Jl9, Jl10, Jl11, Jl12, Jl13, Jl14, Jl15, Jl16, Jl17, Jl18, Jl19, Jl20, Jl22, Jl24, Jl28, Jl30, Jl31, Jl32, Jl35, Jl36, Jl37, Jl38, Jl39, Jl40, Jl48, Jl57, Jl59, Jl60, Jl61, Jl63, Jl64, Jl68, Jl69, Jl96, Jl97, Jl98, Jl99, Jl100, Jl122, Jl149, Jl150, Jl165, Jl255, Jl511, Jl512, Jl600, Jl610, Jl940, Jl968, Jl999, Jl1134, Jl1152, Jl2048, Jl4608, Jl9999, Jl99999, Jl100000, Jl147456, Jl12345, Jl1103515245, Jl100000000, Jlm1, Jlm2, J_add, J_sub, J_mul, J_lt, J_le, J_eq, J_ite, J_cl, ri_j, wi_j, b2i_z, b2i_o, b2i_zo, Int.cast_ofNat_Int, Int.natCast_zero, Int.natCast_one, if_true, if_false, ite_self, Int.le_refl, J_bit, J_or, J_neg, J_oN, Int.reduceEq, Int.reduceLT, Int.reduceLE, Int.reduceNeg, Int.reduceAdd, Int.reduceSub, Int.reduceMul, Int.reduceToNat, J_shl, J_shr, V_ite, true_or, or_true, nz_j, J_div, J_rem, Option.bind_some, Option.toList_some, Option.toList_none, List.cons_append, List.nil_append, Jl21, Jl23, Jl25, Jl74, Jl83, Jl288, Jl324, Jl1800, Jlm8]
theorem q_sold (hd : 11 ≤ d) (hM : ShM μ m) (hl : lo ≤ m) (hS : TSt M x S) (hL : TLa M y L) (hx : i32 x ∧ i32 y ∧ i32 w) : QR μ I m M (if (0 ≤ x ∧ x < M 1 0) ∧ (0 ≤ y ∧ y < M 1 1) then (if w = 0 then (sldQ S L).1 else if w = 1 then (sldQ S L).2.1 else if 10 ≤ w ∧ w < 10 + (sldQ S L).2.1 then (sldQ S L).2.2 (w - 10) else -1) else -1) (cl E lo d 247 [.ref m, .int (J (x)), .int (J (y)), .int (J (w))] (mj μ (sB I m 26 M))) := by
  obtain ⟨d, rfl⟩ : ∃ e, d = e + 1 := ⟨d - 1, by omega⟩
  unfold i32 at hx
  obtain ⟨M1, e1, a1, a2, a3⟩ := str_sp (E := E) (lo := lo) (d := d) (I := I) (M := M) (S := S) (x := x) (by omega) hM hl hS.1 hx.1 hS.2
  have m1 : M1 1 = M 1 := a1 1 (by decide) (by decide)
  have m2 : M1 2 = M 2 := a1 2 (by decide) (by decide)
  obtain ⟨M2, e2, b1, b2, b3⟩ := law_sp (E := E) (lo := lo) (d := d) (I := I) (M := M1) (L := L) (x := y) (by omega) hM hl (by rw [m1]; exact hL.1) hx.2.1 (by rw [m1]; exact fun q1 q2 => (hL.2 q1 q2).2)
  rw [m1] at e2 b3
  by_cases p1 : 0 ≤ x ∧ x < M 1 0
  · rw [decide_eq_true p1] at e1
    obtain ⟨hR, hB, h12⟩ := a3 p1.1 p1.2
    have hV := (hS.2 p1.1 p1.2).1.1
    have v := hV.1
    by_cases p3 : 0 ≤ y ∧ y < M 1 1
    · rw [decide_eq_true p3] at e2
      rw [if_pos ⟨p1, p3⟩]
      have hLV := (hL.2 p3.1 p3.2).1
      have hl2 := b3 p3.1 p3.2
      have hR2 : RS M2 S := hR.fr (b2 12 (by decide)) (b2 18 (by decide)) (b1 1 (by decide)) (b1 4 (by decide)) (b1 5 (by decide)) (b1 7 (by decide)) (b1 8 (by decide))
      have hB2 : RBS M2 S := by
        unfold RBS at *
        rw [b2 19 (by decide), b2 21 (by decide), b1 6 (by decide)]
        exact hB
      obtain ⟨M3, e3, y1, y2, y3⟩ := sel_sp (E := E) (lo := lo) (d := d) (I := I) (by omega) hM hl hV hLV hR2 hB2 hl2
      obtain ⟨z1, z2, z3⟩ := y2
      refine ⟨M3, ?_, by rw [y1.1, b1 1 (by decide), m1], by rw [y1.2, b1 2 (by decide), m2]⟩
      generalize sldQ S L = sq at *
      by_cases c0 : w = 0
      · rw [if_pos c0]
        simp (disch := omega) only [b247_0, b247_5, b247_8, b247_13, b247_18, b247_22, b247_26, b247_74, e247, gO_M hM, gR_M0 hM, gR_M1 hM, gR_M11 hM, gR_M13 hM, gR_M14 hM, gR_M15 hM, gR_M16 hM, gR_M17 hM, gR_M22 hM, gR_M32 hM, gR_M33 hM, gR_M34 hM, gR_M35 hM, gR_M36 hM, gR_M37 hM, gR_M38 hM, gR_M41 hM, gR_M42 hM, gR_M43 hM, gR_M45 hM, gR_M46 hM, gR_M47 hM, gR_M50 hM, gR_M51 hM, gR_M52 hM, al_M1 hM, al_M2 hM, al_M3 hM, al_M4 hM, al_M5 hM, al_M6 hM, al_M7 hM, al_M8 hM, al_M9 hM, al_M10 hM, al_M11 hM, al_M12 hM, al_M13 hM, al_M14 hM, al_M15 hM, al_M16 hM, al_M17 hM, al_M18 hM, al_M19 hM, al_M20 hM, al_M21 hM, al_M22 hM, al_M23 hM, al_M24 hM, al_M25 hM, rd_M1 hM, rd_M2 hM, rd_M3 hM, rd_M4 hM, rd_M5 hM, rd_M6 hM, rd_M7 hM, rd_M8 hM, rd_M9 hM, rd_M10 hM, rd_M11 hM, rd_M12 hM, rd_M13 hM, rd_M14 hM, rd_M15 hM, rd_M16 hM, rd_M17 hM, rd_M18 hM, rd_M19 hM, rd_M20 hM, rd_M21 hM, rd_M22 hM, rd_M23 hM, rd_M24 hM, rd_M25 hM, gP_M hM hl, wr_M1 hM hl, wr_M2 hM hl, wr_M3 hM hl, wr_M4 hM hl, wr_M5 hM hl, wr_M6 hM hl, wr_M7 hM hl, wr_M8 hM hl, wr_M9 hM hl, wr_M10 hM hl, wr_M11 hM hl, wr_M12 hM hl, wr_M13 hM hl, wr_M14 hM hl, wr_M15 hM hl, wr_M16 hM hl, wr_M17 hM hl, wr_M18 hM hl, wr_M19 hM hl, wr_M20 hM hl, wr_M21 hM hl, wr_M22 hM hl, wr_M23 hM hl, wr_M24 hM hl, wr_M25 hM hl, sB_0, sB_c, u3_sB0, u3_sB, u3_s, u3_n, Nat.reduceLT, e1, e2, e3, c0, z1, Bool.true_eq_false, Jl0, Jl1, Jl2, Jl3, Jl4, Jl5, Jl6, Jl7, Jl8, Jl9, Jl10, Jl11, Jl12, Jl13, Jl14, Jl15, Jl16, Jl17, Jl18, Jl19, Jl20, Jl22, Jl24, Jl28, Jl30, Jl31, Jl32, Jl35, Jl36, Jl37, Jl38, Jl39, Jl40, Jl48, Jl57, Jl59, Jl60, Jl61, Jl63, Jl64, Jl68, Jl69, Jl96, Jl97, Jl98, Jl99, Jl100, Jl122, Jl149, Jl150, Jl165, Jl255, Jl511, Jl512, Jl600, Jl610, Jl940, Jl968, Jl999, Jl1134, Jl1152, Jl2048, Jl4608, Jl9999, Jl99999, Jl100000, Jl147456, Jl12345, Jl1103515245, Jl100000000, Jlm1, Jlm2, J_add, J_sub, J_mul, J_lt, J_le, J_eq, J_ite, J_cl, ri_j, wi_j, b2i_z, b2i_o, b2i_zo, Int.cast_ofNat_Int, Int.natCast_zero, Int.natCast_one, if_true, if_false, ite_self, Int.le_refl, J_bit, J_or, J_neg, J_oN, Int.reduceEq, Int.reduceLT, Int.reduceLE, Int.reduceNeg, Int.reduceAdd, Int.reduceSub, Int.reduceMul, Int.reduceToNat, J_shl, J_shr, V_ite, true_or, or_true, nz_j, J_div, J_rem, Option.bind_some, Option.toList_some, Option.toList_none, List.cons_append, List.nil_append, Jl21, Jl23, Jl25, Jl74, Jl83, Jl288, Jl324, Jl1800, Jlm8]
      · rw [if_neg c0]
        by_cases c1 : w = 1
        · rw [if_pos c1]
          simp (disch := omega) only [b247_0, b247_5, b247_8, b247_13, b247_18, b247_22, b247_33, b247_38, b247_74, e247, gO_M hM, gR_M0 hM, gR_M1 hM, gR_M11 hM, gR_M13 hM, gR_M14 hM, gR_M15 hM, gR_M16 hM, gR_M17 hM, gR_M22 hM, gR_M32 hM, gR_M33 hM, gR_M34 hM, gR_M35 hM, gR_M36 hM, gR_M37 hM, gR_M38 hM, gR_M41 hM, gR_M42 hM, gR_M43 hM, gR_M45 hM, gR_M46 hM, gR_M47 hM, gR_M50 hM, gR_M51 hM, gR_M52 hM, al_M1 hM, al_M2 hM, al_M3 hM, al_M4 hM, al_M5 hM, al_M6 hM, al_M7 hM, al_M8 hM, al_M9 hM, al_M10 hM, al_M11 hM, al_M12 hM, al_M13 hM, al_M14 hM, al_M15 hM, al_M16 hM, al_M17 hM, al_M18 hM, al_M19 hM, al_M20 hM, al_M21 hM, al_M22 hM, al_M23 hM, al_M24 hM, al_M25 hM, rd_M1 hM, rd_M2 hM, rd_M3 hM, rd_M4 hM, rd_M5 hM, rd_M6 hM, rd_M7 hM, rd_M8 hM, rd_M9 hM, rd_M10 hM, rd_M11 hM, rd_M12 hM, rd_M13 hM, rd_M14 hM, rd_M15 hM, rd_M16 hM, rd_M17 hM, rd_M18 hM, rd_M19 hM, rd_M20 hM, rd_M21 hM, rd_M22 hM, rd_M23 hM, rd_M24 hM, rd_M25 hM, gP_M hM hl, wr_M1 hM hl, wr_M2 hM hl, wr_M3 hM hl, wr_M4 hM hl, wr_M5 hM hl, wr_M6 hM hl, wr_M7 hM hl, wr_M8 hM hl, wr_M9 hM hl, wr_M10 hM hl, wr_M11 hM hl, wr_M12 hM hl, wr_M13 hM hl, wr_M14 hM hl, wr_M15 hM hl, wr_M16 hM hl, wr_M17 hM hl, wr_M18 hM hl, wr_M19 hM hl, wr_M20 hM hl, wr_M21 hM hl, wr_M22 hM hl, wr_M23 hM hl, wr_M24 hM hl, wr_M25 hM hl, sB_0, sB_c, u3_sB0, u3_sB, u3_s, u3_n, Nat.reduceLT, e1, e2, e3, c1, z2, Bool.true_eq_false, Jl0, Jl1, Jl2, Jl3, Jl4, Jl5, Jl6, Jl7, Jl8, Jl9, Jl10, Jl11, Jl12, Jl13, Jl14, Jl15, Jl16, Jl17, Jl18, Jl19, Jl20, Jl22, Jl24, Jl28, Jl30, Jl31, Jl32, Jl35, Jl36, Jl37, Jl38, Jl39, Jl40, Jl48, Jl57, Jl59, Jl60, Jl61, Jl63, Jl64, Jl68, Jl69, Jl96, Jl97, Jl98, Jl99, Jl100, Jl122, Jl149, Jl150, Jl165, Jl255, Jl511, Jl512, Jl600, Jl610, Jl940, Jl968, Jl999, Jl1134, Jl1152, Jl2048, Jl4608, Jl9999, Jl99999, Jl100000, Jl147456, Jl12345, Jl1103515245, Jl100000000, Jlm1, Jlm2, J_add, J_sub, J_mul, J_lt, J_le, J_eq, J_ite, J_cl, ri_j, wi_j, b2i_z, b2i_o, b2i_zo, Int.cast_ofNat_Int, Int.natCast_zero, Int.natCast_one, if_true, if_false, ite_self, Int.le_refl, J_bit, J_or, J_neg, J_oN, Int.reduceEq, Int.reduceLT, Int.reduceLE, Int.reduceNeg, Int.reduceAdd, Int.reduceSub, Int.reduceMul, Int.reduceToNat, J_shl, J_shr, V_ite, true_or, or_true, nz_j, J_div, J_rem, Option.bind_some, Option.toList_some, Option.toList_none, List.cons_append, List.nil_append, Jl21, Jl23, Jl25, Jl74, Jl83, Jl288, Jl324, Jl1800, Jlm8]
        · rw [if_neg c1]
          by_cases c2 : 10 ≤ w ∧ w < 10 + sq.2.1
          · rw [if_pos c2]
            have c3 : 10 ≤ w ∧ w ≤ 9 + sq.2.1 := by omega
            have ev := z3 (w - 10) (by omega) (by omega)
            simp (disch := omega) only [b247_0, b247_5, b247_8, b247_13, b247_18, b247_22, b247_33, b247_45, b247_58, b247_61, b247_74, e247, gO_M hM, gR_M0 hM, gR_M1 hM, gR_M11 hM, gR_M13 hM, gR_M14 hM, gR_M15 hM, gR_M16 hM, gR_M17 hM, gR_M22 hM, gR_M32 hM, gR_M33 hM, gR_M34 hM, gR_M35 hM, gR_M36 hM, gR_M37 hM, gR_M38 hM, gR_M41 hM, gR_M42 hM, gR_M43 hM, gR_M45 hM, gR_M46 hM, gR_M47 hM, gR_M50 hM, gR_M51 hM, gR_M52 hM, al_M1 hM, al_M2 hM, al_M3 hM, al_M4 hM, al_M5 hM, al_M6 hM, al_M7 hM, al_M8 hM, al_M9 hM, al_M10 hM, al_M11 hM, al_M12 hM, al_M13 hM, al_M14 hM, al_M15 hM, al_M16 hM, al_M17 hM, al_M18 hM, al_M19 hM, al_M20 hM, al_M21 hM, al_M22 hM, al_M23 hM, al_M24 hM, al_M25 hM, rd_M1 hM, rd_M2 hM, rd_M3 hM, rd_M4 hM, rd_M5 hM, rd_M6 hM, rd_M7 hM, rd_M8 hM, rd_M9 hM, rd_M10 hM, rd_M11 hM, rd_M12 hM, rd_M13 hM, rd_M14 hM, rd_M15 hM, rd_M16 hM, rd_M17 hM, rd_M18 hM, rd_M19 hM, rd_M20 hM, rd_M21 hM, rd_M22 hM, rd_M23 hM, rd_M24 hM, rd_M25 hM, gP_M hM hl, wr_M1 hM hl, wr_M2 hM hl, wr_M3 hM hl, wr_M4 hM hl, wr_M5 hM hl, wr_M6 hM hl, wr_M7 hM hl, wr_M8 hM hl, wr_M9 hM hl, wr_M10 hM hl, wr_M11 hM hl, wr_M12 hM hl, wr_M13 hM hl, wr_M14 hM hl, wr_M15 hM hl, wr_M16 hM hl, wr_M17 hM hl, wr_M18 hM hl, wr_M19 hM hl, wr_M20 hM hl, wr_M21 hM hl, wr_M22 hM hl, wr_M23 hM hl, wr_M24 hM hl, wr_M25 hM hl, sB_0, sB_c, u3_sB0, u3_sB, u3_s, u3_n, Nat.reduceLT, e1, e2, e3, c0, c1, z2, is_sp, c3, ev, and_self, decide_true, Bool.true_eq_false, Jl0, Jl1, Jl2, Jl3, Jl4, Jl5, Jl6, Jl7, Jl8, Jl9, Jl10, Jl11, Jl12, Jl13, Jl14, Jl15, Jl16, Jl17, Jl18, Jl19, Jl20, Jl22, Jl24, Jl28, Jl30, Jl31, Jl32, Jl35, Jl36, Jl37, Jl38, Jl39, Jl40, Jl48, Jl57, Jl59, Jl60, Jl61, Jl63, Jl64, Jl68, Jl69, Jl96, Jl97, Jl98, Jl99, Jl100, Jl122, Jl149, Jl150, Jl165, Jl255, Jl511, Jl512, Jl600, Jl610, Jl940, Jl968, Jl999, Jl1134, Jl1152, Jl2048, Jl4608, Jl9999, Jl99999, Jl100000, Jl147456, Jl12345, Jl1103515245, Jl100000000, Jlm1, Jlm2, J_add, J_sub, J_mul, J_lt, J_le, J_eq, J_ite, J_cl, ri_j, wi_j, b2i_z, b2i_o, b2i_zo, Int.cast_ofNat_Int, Int.natCast_zero, Int.natCast_one, if_true, if_false, ite_self, Int.le_refl, J_bit, J_or, J_neg, J_oN, Int.reduceEq, Int.reduceLT, Int.reduceLE, Int.reduceNeg, Int.reduceAdd, Int.reduceSub, Int.reduceMul, Int.reduceToNat, J_shl, J_shr, V_ite, true_or, or_true, nz_j, J_div, J_rem, Option.bind_some, Option.toList_some, Option.toList_none, List.cons_append, List.nil_append, Jl21, Jl23, Jl25, Jl74, Jl83, Jl288, Jl324, Jl1800, Jlm8]
          · rw [if_neg c2]
            have c3 : ¬ (10 ≤ w ∧ w ≤ 9 + sq.2.1) := by omega
            simp (disch := omega) only [b247_0, b247_5, b247_8, b247_13, b247_18, b247_22, b247_33, b247_45, b247_58, b247_73, b247_74, e247, gO_M hM, gR_M0 hM, gR_M1 hM, gR_M11 hM, gR_M13 hM, gR_M14 hM, gR_M15 hM, gR_M16 hM, gR_M17 hM, gR_M22 hM, gR_M32 hM, gR_M33 hM, gR_M34 hM, gR_M35 hM, gR_M36 hM, gR_M37 hM, gR_M38 hM, gR_M41 hM, gR_M42 hM, gR_M43 hM, gR_M45 hM, gR_M46 hM, gR_M47 hM, gR_M50 hM, gR_M51 hM, gR_M52 hM, al_M1 hM, al_M2 hM, al_M3 hM, al_M4 hM, al_M5 hM, al_M6 hM, al_M7 hM, al_M8 hM, al_M9 hM, al_M10 hM, al_M11 hM, al_M12 hM, al_M13 hM, al_M14 hM, al_M15 hM, al_M16 hM, al_M17 hM, al_M18 hM, al_M19 hM, al_M20 hM, al_M21 hM, al_M22 hM, al_M23 hM, al_M24 hM, al_M25 hM, rd_M1 hM, rd_M2 hM, rd_M3 hM, rd_M4 hM, rd_M5 hM, rd_M6 hM, rd_M7 hM, rd_M8 hM, rd_M9 hM, rd_M10 hM, rd_M11 hM, rd_M12 hM, rd_M13 hM, rd_M14 hM, rd_M15 hM, rd_M16 hM, rd_M17 hM, rd_M18 hM, rd_M19 hM, rd_M20 hM, rd_M21 hM, rd_M22 hM, rd_M23 hM, rd_M24 hM, rd_M25 hM, gP_M hM hl, wr_M1 hM hl, wr_M2 hM hl, wr_M3 hM hl, wr_M4 hM hl, wr_M5 hM hl, wr_M6 hM hl, wr_M7 hM hl, wr_M8 hM hl, wr_M9 hM hl, wr_M10 hM hl, wr_M11 hM hl, wr_M12 hM hl, wr_M13 hM hl, wr_M14 hM hl, wr_M15 hM hl, wr_M16 hM hl, wr_M17 hM hl, wr_M18 hM hl, wr_M19 hM hl, wr_M20 hM hl, wr_M21 hM hl, wr_M22 hM hl, wr_M23 hM hl, wr_M24 hM hl, wr_M25 hM hl, sB_0, sB_c, u3_sB0, u3_sB, u3_s, u3_n, Nat.reduceLT, e1, e2, e3, c0, c1, z2, is_sp, c3, decide_false, Bool.true_eq_false, Jl0, Jl1, Jl2, Jl3, Jl4, Jl5, Jl6, Jl7, Jl8, Jl9, Jl10, Jl11, Jl12, Jl13, Jl14, Jl15, Jl16, Jl17, Jl18, Jl19, Jl20, Jl22, Jl24, Jl28, Jl30, Jl31, Jl32, Jl35, Jl36, Jl37, Jl38, Jl39, Jl40, Jl48, Jl57, Jl59, Jl60, Jl61, Jl63, Jl64, Jl68, Jl69, Jl96, Jl97, Jl98, Jl99, Jl100, Jl122, Jl149, Jl150, Jl165, Jl255, Jl511, Jl512, Jl600, Jl610, Jl940, Jl968, Jl999, Jl1134, Jl1152, Jl2048, Jl4608, Jl9999, Jl99999, Jl100000, Jl147456, Jl12345, Jl1103515245, Jl100000000, Jlm1, Jlm2, J_add, J_sub, J_mul, J_lt, J_le, J_eq, J_ite, J_cl, ri_j, wi_j, b2i_z, b2i_o, b2i_zo, Int.cast_ofNat_Int, Int.natCast_zero, Int.natCast_one, if_true, if_false, ite_self, Int.le_refl, J_bit, J_or, J_neg, J_oN, Int.reduceEq, Int.reduceLT, Int.reduceLE, Int.reduceNeg, Int.reduceAdd, Int.reduceSub, Int.reduceMul, Int.reduceToNat, J_shl, J_shr, V_ite, true_or, or_true, nz_j, J_div, J_rem, Option.bind_some, Option.toList_some, Option.toList_none, List.cons_append, List.nil_append, Jl21, Jl23, Jl25, Jl74, Jl83, Jl288, Jl324, Jl1800, Jlm8]
    · rw [decide_eq_false p3] at e2
      rw [if_neg (fun q => p3 q.2)]
      refine ⟨M2, ?_, by rw [b1 1 (by decide), m1], by rw [b1 2 (by decide), m2]⟩
      simp (disch := omega) only [b247_0, b247_5, b247_8, b247_13, b247_16, e247, gO_M hM, gR_M0 hM, gR_M1 hM, gR_M11 hM, gR_M13 hM, gR_M14 hM, gR_M15 hM, gR_M16 hM, gR_M17 hM, gR_M22 hM, gR_M32 hM, gR_M33 hM, gR_M34 hM, gR_M35 hM, gR_M36 hM, gR_M37 hM, gR_M38 hM, gR_M41 hM, gR_M42 hM, gR_M43 hM, gR_M45 hM, gR_M46 hM, gR_M47 hM, gR_M50 hM, gR_M51 hM, gR_M52 hM, al_M1 hM, al_M2 hM, al_M3 hM, al_M4 hM, al_M5 hM, al_M6 hM, al_M7 hM, al_M8 hM, al_M9 hM, al_M10 hM, al_M11 hM, al_M12 hM, al_M13 hM, al_M14 hM, al_M15 hM, al_M16 hM, al_M17 hM, al_M18 hM, al_M19 hM, al_M20 hM, al_M21 hM, al_M22 hM, al_M23 hM, al_M24 hM, al_M25 hM, rd_M1 hM, rd_M2 hM, rd_M3 hM, rd_M4 hM, rd_M5 hM, rd_M6 hM, rd_M7 hM, rd_M8 hM, rd_M9 hM, rd_M10 hM, rd_M11 hM, rd_M12 hM, rd_M13 hM, rd_M14 hM, rd_M15 hM, rd_M16 hM, rd_M17 hM, rd_M18 hM, rd_M19 hM, rd_M20 hM, rd_M21 hM, rd_M22 hM, rd_M23 hM, rd_M24 hM, rd_M25 hM, gP_M hM hl, wr_M1 hM hl, wr_M2 hM hl, wr_M3 hM hl, wr_M4 hM hl, wr_M5 hM hl, wr_M6 hM hl, wr_M7 hM hl, wr_M8 hM hl, wr_M9 hM hl, wr_M10 hM hl, wr_M11 hM hl, wr_M12 hM hl, wr_M13 hM hl, wr_M14 hM hl, wr_M15 hM hl, wr_M16 hM hl, wr_M17 hM hl, wr_M18 hM hl, wr_M19 hM hl, wr_M20 hM hl, wr_M21 hM hl, wr_M22 hM hl, wr_M23 hM hl, wr_M24 hM hl, wr_M25 hM hl, sB_0, sB_c, u3_sB0, u3_sB, u3_s, u3_n, Nat.reduceLT, e1, e2, Bool.true_eq_false, Jl0, Jl1, Jl2, Jl3, Jl4, Jl5, Jl6, Jl7, Jl8, Jl9, Jl10, Jl11, Jl12, Jl13, Jl14, Jl15, Jl16, Jl17, Jl18, Jl19, Jl20, Jl22, Jl24, Jl28, Jl30, Jl31, Jl32, Jl35, Jl36, Jl37, Jl38, Jl39, Jl40, Jl48, Jl57, Jl59, Jl60, Jl61, Jl63, Jl64, Jl68, Jl69, Jl96, Jl97, Jl98, Jl99, Jl100, Jl122, Jl149, Jl150, Jl165, Jl255, Jl511, Jl512, Jl600, Jl610, Jl940, Jl968, Jl999, Jl1134, Jl1152, Jl2048, Jl4608, Jl9999, Jl99999, Jl100000, Jl147456, Jl12345, Jl1103515245, Jl100000000, Jlm1, Jlm2, J_add, J_sub, J_mul, J_lt, J_le, J_eq, J_ite, J_cl, ri_j, wi_j, b2i_z, b2i_o, b2i_zo, Int.cast_ofNat_Int, Int.natCast_zero, Int.natCast_one, if_true, if_false, ite_self, Int.le_refl, J_bit, J_or, J_neg, J_oN, Int.reduceEq, Int.reduceLT, Int.reduceLE, Int.reduceNeg, Int.reduceAdd, Int.reduceSub, Int.reduceMul, Int.reduceToNat, J_shl, J_shr, V_ite, true_or, or_true, nz_j, J_div, J_rem, Option.bind_some, Option.toList_some, Option.toList_none, List.cons_append, List.nil_append, Jl21, Jl23, Jl25, Jl74, Jl83, Jl288, Jl324, Jl1800, Jlm8]
  · rw [decide_eq_false p1] at e1
    rw [if_neg (fun q => p1 q.1)]
    refine ⟨M1, ?_, m1, m2⟩
    simp (disch := omega) only [b247_0, b247_5, b247_16, e247, gO_M hM, gR_M0 hM, gR_M1 hM, gR_M11 hM, gR_M13 hM, gR_M14 hM, gR_M15 hM, gR_M16 hM, gR_M17 hM, gR_M22 hM, gR_M32 hM, gR_M33 hM, gR_M34 hM, gR_M35 hM, gR_M36 hM, gR_M37 hM, gR_M38 hM, gR_M41 hM, gR_M42 hM, gR_M43 hM, gR_M45 hM, gR_M46 hM, gR_M47 hM, gR_M50 hM, gR_M51 hM, gR_M52 hM, al_M1 hM, al_M2 hM, al_M3 hM, al_M4 hM, al_M5 hM, al_M6 hM, al_M7 hM, al_M8 hM, al_M9 hM, al_M10 hM, al_M11 hM, al_M12 hM, al_M13 hM, al_M14 hM, al_M15 hM, al_M16 hM, al_M17 hM, al_M18 hM, al_M19 hM, al_M20 hM, al_M21 hM, al_M22 hM, al_M23 hM, al_M24 hM, al_M25 hM, rd_M1 hM, rd_M2 hM, rd_M3 hM, rd_M4 hM, rd_M5 hM, rd_M6 hM, rd_M7 hM, rd_M8 hM, rd_M9 hM, rd_M10 hM, rd_M11 hM, rd_M12 hM, rd_M13 hM, rd_M14 hM, rd_M15 hM, rd_M16 hM, rd_M17 hM, rd_M18 hM, rd_M19 hM, rd_M20 hM, rd_M21 hM, rd_M22 hM, rd_M23 hM, rd_M24 hM, rd_M25 hM, gP_M hM hl, wr_M1 hM hl, wr_M2 hM hl, wr_M3 hM hl, wr_M4 hM hl, wr_M5 hM hl, wr_M6 hM hl, wr_M7 hM hl, wr_M8 hM hl, wr_M9 hM hl, wr_M10 hM hl, wr_M11 hM hl, wr_M12 hM hl, wr_M13 hM hl, wr_M14 hM hl, wr_M15 hM hl, wr_M16 hM hl, wr_M17 hM hl, wr_M18 hM hl, wr_M19 hM hl, wr_M20 hM hl, wr_M21 hM hl, wr_M22 hM hl, wr_M23 hM hl, wr_M24 hM hl, wr_M25 hM hl, sB_0, sB_c, u3_sB0, u3_sB, u3_s, u3_n, Nat.reduceLT, e1, b2i_f, Jl0, Jl1, Jl2, Jl3, Jl4, Jl5, Jl6, Jl7, Jl8, Jl9, Jl10, Jl11, Jl12, Jl13, Jl14, Jl15, Jl16, Jl17, Jl18, Jl19, Jl20, Jl22, Jl24, Jl28, Jl30, Jl31, Jl32, Jl35, Jl36, Jl37, Jl38, Jl39, Jl40, Jl48, Jl57, Jl59, Jl60, Jl61, Jl63, Jl64, Jl68, Jl69, Jl96, Jl97, Jl98, Jl99, Jl100, Jl122, Jl149, Jl150, Jl165, Jl255, Jl511, Jl512, Jl600, Jl610, Jl940, Jl968, Jl999, Jl1134, Jl1152, Jl2048, Jl4608, Jl9999, Jl99999, Jl100000, Jl147456, Jl12345, Jl1103515245, Jl100000000, Jlm1, Jlm2, J_add, J_sub, J_mul, J_lt, J_le, J_eq, J_ite, J_cl, ri_j, wi_j, b2i_z, b2i_o, b2i_zo, Int.cast_ofNat_Int, Int.natCast_zero, Int.natCast_one, if_true, if_false, ite_self, Int.le_refl, J_bit, J_or, J_neg, J_oN, Int.reduceEq, Int.reduceLT, Int.reduceLE, Int.reduceNeg, Int.reduceAdd, Int.reduceSub, Int.reduceMul, Int.reduceToNat, J_shl, J_shr, V_ite, true_or, or_true, nz_j, J_div, J_rem, Option.bind_some, Option.toList_some, Option.toList_none, List.cons_append, List.nil_append, Jl21, Jl23, Jl25, Jl74, Jl83, Jl288, Jl324, Jl1800, Jlm8]
end REF
