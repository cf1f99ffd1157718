/-! THE REFERENCE'S ANSWERS: sold -/
/-- all charges of a house at a unit -/
def chQ (S L : Nat → Int → Int) (h u : Int) : Int := sm (fun k => if S 3 k = h then cgG S L (fun j => rdN S (siS S) tST j u) k u else 0) (S 0 3)
theorem chQ_b {S L : Nat → Int → Int} (hV : SV S) (hLV : LV L) {h u : Int} (hu : 0 ≤ u ∧ u < 36) : 0 ≤ chQ S L h u ∧ chQ S L h u ≤ 9000 := by
  have v := hV.1
  have := sm_b (fun k => if S 3 k = h then cgG S L (fun j => rdN S (siS S) tST j u) k u else 0) (n := S 0 3) (A := 0) (B := 1000) (by omega) (fun k g1 g2 => by
    split
    · exact cgG_b hV hLV ⟨g1, g2⟩ hu (fun j q1 q2 => rdT_b hV ⟨q1, q2⟩ hu (siS_b hV))
    · omega)
  unfold chQ
  omega
/-- rows of houses, in their order: the sum, how many, which -/
def sdF (S : Nat → Int → Int) (cq : Int → Int → Int) : Nat → Int → Int → Int → Int → Int → (Int → Int) → Int × Int × (Int → Int) → Int × Int × (Int → Int)
  | 0, _, _, _, _, _, _, b => b
  | m + 1, n, h, u, vs, s, row, b => fo (fun k b => if S 1 (h * 8 + k) ≠ 0 ∧ u + S 1 (h * 8 + k) ≤ 35 ∧ tb (so vs (p2 h)) k = false then sdF S cq m (n + 1) k (u + S 1 (h * 8 + k)) (so vs (p2 h)) (s + cq h u) (u1 row n h) b else b) (if b.1 < s + cq h u then (s + cq h u, n + 1, u1 row n h) else b) (S 0 0)
theorem bc_le {s n : Int} (hs : 0 ≤ s ∧ s < p2 n) (hn : 0 ≤ n ∧ n ≤ 9) : bc s ≤ n := by
  unfold bc
  have e : sm (fun k => b2i (tb s k)) 9 = sm (fun k => b2i (tb s k)) n := fo_tail _ _ hn (fun i x g1 g2 => by
    dsimp only
    rw [tb_lt hs hn.1 g1, b2i_f, Int.add_zero])
  have := sm_b (fun k => b2i (tb s k)) (n := n) (A := 0) (B := 1) hn.1 (fun i _ _ => b2i_r _)
  omega
/-- the rest of a fold -/
def fr {α : Type} (g : Int → α → α) (b : α) (a n : Int) : α := fo (fun j b => g (a + j) b) b (n - a)
theorem fr_n {α : Type} (g : Int → α → α) (b : α) (n : Int) : fr g b n n = b := by
  unfold fr
  rw [show n - n = 0 by omega]
  rfl
theorem fo_l {α : Type} (g : Int → α → α) (b : α) {n : Int} (hn : 0 ≤ n) : fo g b (n + 1) = fo (fun j b => g (1 + j) b) (g 0 b) n := by
  obtain ⟨m, rfl⟩ : ∃ m : Nat, n = m := ⟨n.toNat, by omega⟩
  clear hn
  induction m with
  | zero => rw [fo_s _ _ (by omega)]; rfl
  | succ m ih =>
    have e1 := fo_s g b (n := (m : Int) + 1) (by omega)
    have e2 := fo_s (fun j b => g (1 + j) b) (g 0 b) (n := (m : Int)) (by omega)
    rw [show ((m + 1 : Nat) : Int) = (m : Int) + 1 by omega, e1, e2, ih, show (1 : Int) + m = (m : Int) + 1 by omega]
theorem fr_s {α : Type} (g : Int → α → α) (b : α) {a n : Int} (h : a < n) : fr g b a n = fr g (g a b) (a + 1) n := by
  unfold fr
  rw [show n - a = (n - (a + 1)) + 1 by omega, fo_l _ _ (by omega), Int.add_zero]
  congr 1
  funext j b
  rw [show a + (1 + j) = a + 1 + j by omega]
theorem fr_0 {α : Type} (g : Int → α → α) (b : α) (n : Int) : fr g b 0 n = fo g b n := by
  unfold fr
  rw [Int.sub_zero]
  congr 1
  funext j b
  rw [Int.zero_add]
section REF
variable {E : (Nat → Value) × (Nat → Nat)} {lo d m : Nat} {μ : rM} {I M S L R C T : Nat → Int → Int} {k u x y z h w s r n c j : Int}
theorem soa_sp (hd : 7 ≤ d) (hM : ShM μ m) (hl : lo ≤ m) (hW : RW M S) (hV : SV S) (hL : RL M L) (hLV : LV L) (hh : 0 ≤ h ∧ h < 8) (hu : 0 ≤ u ∧ u < 36) : ∃ M', cl E lo d 243 [.ref m, .int (J (h)), .int (J (u))] (mj μ (sB I m 26 M)) = some (some (.int (J (chQ S L h u))), mj μ (sB I m 26 M')) ∧ ∀ c, c ≠ 12 → M' c = M c := by
  obtain ⟨d, rfl⟩ : ∃ e, d = e + 1 := ⟨d - 1, by omega⟩
  have v := hV.1
  have hr := rda_sp (E := E) (lo := lo) (d := d) (I := I) (h := h) (u := u) (by omega) hM hl hW.1 hV hh hu (fun k g1 g2 => hW.A hV ⟨g1, g2⟩ hu.1)
  refine ⟨sA M 12 (ov (M 12) (rnR M S h u) 9), ?_, fun c g => sA_n g⟩
  generalize hM1 : sA M 12 (ov (M 12) (rnR M S h u) 9) = M1 at *
  have c1 : ∀ c, c ≠ 12 → M1 c = M c := fun c g => by rw [← hM1, sA_n g]
  have hR1 : RS M1 S := hW.1.fr (by rw [c1 0 (by decide)]) (by rw [c1 0 (by decide)]) (c1 1 (by decide)) (c1 4 (by decide)) (c1 5 (by decide)) (c1 7 (by decide)) (c1 8 (by decide))
  have hL1 : RL M1 L := hL.fr (by rw [c1 0 (by decide)]) (c1 1 (by decide))
  have e12 : ∀ k, 0 ≤ k → k < S 0 3 → M1 12 k = if S 3 k = h then rdN S (siS S) tST k u else -1 := by
    intro k g1 g2
    have sb := siS_b hV (k := k)
    have e6 := hW.2.1.2.2 k g1 g2
    rw [← hM1, sA_s, ov_i (by omega)]
    unfold rnR
    by_cases c : S 3 k = h
    · rw [if_pos ⟨g2, c⟩, if_pos c, hW.2.1.1, rq_still g1 (by omega) ⟨hW.2.2 k g1 (by omega), fun q => hW.2.2 _ (by omega) (by omega)⟩ e6 (by omega)]
    · rw [if_neg (fun q => c q.2), if_neg c]
  have hrb : ∀ k, 0 ≤ k → k < S 0 3 → -1 ≤ rdN S (siS S) tST k u ∧ rdN S (siS S) tST k u ≤ 100 := fun k g1 g2 => rdT_b hV ⟨g1, g2⟩ hu (siS_b hV)
  have hN1 : ∀ i, 0 ≤ i → i < S 0 3 → -1 ≤ M1 12 i ∧ M1 12 i ≤ 100 := by
    intro i g1 g2
    rw [e12 i g1 g2]
    have := hrb i g1 g2
    split <;> omega
  have LL := tele (fun i => ex PG E lo d 243 11 [some (.ref m), some (.int (J (h))), some (.int (J (u))), some (.int (J ((sm (fun k => if S 3 k = h then cgG S L (fun j => rdN S (siS S) tST j u) k u else 0) i)))), some (.int (J (i)))] [] (mj μ (sB I m 26 M1))) (a := 0) (n := S 0 3) (fun i f1 f2 => by
    have hns := nS_sp (E := E) (lo := lo) (d := d) (I := I) (by omega) hM hR1
    have ei := e12 i f1 f2
    rw [b243_11, sm_s _ f1]
    by_cases c : S 3 i = h
    · rw [if_pos c] at ei
      rw [if_pos c]
      by_cases c2 : rdN S (siS S) tST i u = -1
      · rw [c2] at ei
        have e0 : cgG S L (fun j => rdN S (siS S) tST j u) i u = 0 := by unfold cgG; rw [if_pos c2]
        rw [e0]
        simp (disch := omega) only [b243_17, b243_20, b243_47, gO_M hM, gR_M0 hM, gR_M1 hM, gR_M11 hM, gR_M13 hM, gR_M14 hM, gR_M15 hM, gR_M16 hM, gR_M17 hM, gR_M22 hM, gR_M32 hM, gR_M33 hM, gR_M34 hM, gR_M35 hM, gR_M36 hM, gR_M37 hM, gR_M38 hM, gR_M41 hM, gR_M42 hM, gR_M43 hM, gR_M45 hM, gR_M46 hM, gR_M47 hM, gR_M50 hM, gR_M51 hM, gR_M52 hM, al_M1 hM, al_M2 hM, al_M3 hM, al_M4 hM, al_M5 hM, al_M6 hM, al_M7 hM, al_M8 hM, al_M9 hM, al_M10 hM, al_M11 hM, al_M12 hM, al_M13 hM, al_M14 hM, al_M15 hM, al_M16 hM, al_M17 hM, al_M18 hM, al_M19 hM, al_M20 hM, al_M21 hM, al_M22 hM, al_M23 hM, al_M24 hM, al_M25 hM, rd_M1 hM, rd_M2 hM, rd_M3 hM, rd_M4 hM, rd_M5 hM, rd_M6 hM, rd_M7 hM, rd_M8 hM, rd_M9 hM, rd_M10 hM, rd_M11 hM, rd_M12 hM, rd_M13 hM, rd_M14 hM, rd_M15 hM, rd_M16 hM, rd_M17 hM, rd_M18 hM, rd_M19 hM, rd_M20 hM, rd_M21 hM, rd_M22 hM, rd_M23 hM, rd_M24 hM, rd_M25 hM, sB_0, sB_c, u3_sB0, u3_sB, u3_s, u3_n, Nat.reduceLT, hns, ei, Int.add_zero, Jl0, Jl1, Jl2, Jl3, Jl4, Jl5, Jl6, Jl7, Jl8, Jl9, Jl10, Jl11, Jl12, Jl13, Jl14, Jl15, Jl16, Jl17, Jl18, Jl19, Jl20, Jl22, Jl24, Jl28, Jl30, Jl31, Jl32, Jl35, Jl36, Jl37, Jl38, Jl39, Jl40, Jl48, Jl57, Jl59, Jl60, Jl61, Jl63, Jl64, Jl68, Jl69, Jl96, Jl97, Jl98, Jl99, Jl100, Jl122, Jl149, Jl150, Jl165, Jl255, Jl511, Jl512, Jl600, Jl610, Jl940, Jl968, Jl999, Jl1134, Jl1152, Jl2048, Jl4608, Jl9999, Jl99999, Jl100000, Jl147456, Jl12345, Jl1103515245, Jl100000000, Jlm1, Jlm2, J_add, J_sub, J_mul, J_lt, J_le, J_eq, J_ite, J_cl, ri_j, wi_j, b2i_z, b2i_o, b2i_zo, Int.cast_ofNat_Int, Int.natCast_zero, Int.natCast_one, if_true, if_false, ite_self, Int.le_refl, J_bit, J_or, J_neg, J_oN, Int.reduceEq, Int.reduceLT, Int.reduceLE, Int.reduceNeg, Int.reduceAdd, Int.reduceSub, Int.reduceMul, Int.reduceToNat, J_shl, J_shr, V_ite, true_or, or_true, nz_j, J_div, J_rem, Option.bind_some, Option.toList_some, Option.toList_none, List.cons_append, List.nil_append, Jl21, Jl23, Jl25, Jl74, Jl83, Jl288, Jl324, Jl1800, Jlm8]
        repeat (first | rw [if_neg (by omega)] | rw [if_pos (by omega)])
      · have hco := coR_mx (S := S) (L := L) (N := M1 12) (r := fun j => rdN S (siS S) tST j u) (h := h) (k := i) (by omega) ⟨f1, f2⟩ c (fun j q1 q2 => (hrb j q1 q2).1) e12 c2
        have hcs := co_sp (E := E) (lo := lo) (d := d) (I := I) (k := i) (by omega) hM hR1 hV hL1 hLV ⟨f1, f2⟩ hN1
        have hcb : -1 ≤ coR (M1 12) S L i ∧ coR (M1 12) S L i ≤ 100 := by
          unfold coR
          split
          · exact hN1 i f1 f2
          · exact co_b (by omega) (hN1 i f1 f2) hN1
        have hcr := cr_sp (E := E) (lo := lo) (d := d) (I := I) (k := i) (u := u) (r := coR (M1 12) S L i) (by omega) hM hR1 hV hL1 hLV ⟨f1, f2⟩ hcb hu
        have e0 : cgG S L (fun j => rdN S (siS S) tST j u) i u = chS L (coR (M1 12) S L i) u (S 3 i) (poS S i u) := by
          unfold cgG
          rw [if_neg c2, hco]
        have c3 : ¬ M1 12 i = -1 := by rw [ei]; exact c2
        have n12 := hN1 i f1 f2
        rw [e0]
        simp (disch := omega) only [b243_17, b243_20, b243_31, b243_41, b243_45, b243_47, gO_M hM, gR_M0 hM, gR_M1 hM, gR_M11 hM, gR_M13 hM, gR_M14 hM, gR_M15 hM, gR_M16 hM, gR_M17 hM, gR_M22 hM, gR_M32 hM, gR_M33 hM, gR_M34 hM, gR_M35 hM, gR_M36 hM, gR_M37 hM, gR_M38 hM, gR_M41 hM, gR_M42 hM, gR_M43 hM, gR_M45 hM, gR_M46 hM, gR_M47 hM, gR_M50 hM, gR_M51 hM, gR_M52 hM, al_M1 hM, al_M2 hM, al_M3 hM, al_M4 hM, al_M5 hM, al_M6 hM, al_M7 hM, al_M8 hM, al_M9 hM, al_M10 hM, al_M11 hM, al_M12 hM, al_M13 hM, al_M14 hM, al_M15 hM, al_M16 hM, al_M17 hM, al_M18 hM, al_M19 hM, al_M20 hM, al_M21 hM, al_M22 hM, al_M23 hM, al_M24 hM, al_M25 hM, rd_M1 hM, rd_M2 hM, rd_M3 hM, rd_M4 hM, rd_M5 hM, rd_M6 hM, rd_M7 hM, rd_M8 hM, rd_M9 hM, rd_M10 hM, rd_M11 hM, rd_M12 hM, rd_M13 hM, rd_M14 hM, rd_M15 hM, rd_M16 hM, rd_M17 hM, rd_M18 hM, rd_M19 hM, rd_M20 hM, rd_M21 hM, rd_M22 hM, rd_M23 hM, rd_M24 hM, rd_M25 hM, sB_0, sB_c, u3_sB0, u3_sB, u3_s, u3_n, Nat.reduceLT, hns, c3, hcs, hcr, Jl0, Jl1, Jl2, Jl3, Jl4, Jl5, Jl6, Jl7, Jl8, Jl9, Jl10, Jl11, Jl12, Jl13, Jl14, Jl15, Jl16, Jl17, Jl18, Jl19, Jl20, Jl22, Jl24, Jl28, Jl30, Jl31, Jl32, Jl35, Jl36, Jl37, Jl38, Jl39, Jl40, Jl48, Jl57, Jl59, Jl60, Jl61, Jl63, Jl64, Jl68, Jl69, Jl96, Jl97, Jl98, Jl99, Jl100, Jl122, Jl149, Jl150, Jl165, Jl255, Jl511, Jl512, Jl600, Jl610, Jl940, Jl968, Jl999, Jl1134, Jl1152, Jl2048, Jl4608, Jl9999, Jl99999, Jl100000, Jl147456, Jl12345, Jl1103515245, Jl100000000, Jlm1, Jlm2, J_add, J_sub, J_mul, J_lt, J_le, J_eq, J_ite, J_cl, ri_j, wi_j, b2i_z, b2i_o, b2i_zo, Int.cast_ofNat_Int, Int.natCast_zero, Int.natCast_one, if_true, if_false, ite_self, Int.le_refl, J_bit, J_or, J_neg, J_oN, Int.reduceEq, Int.reduceLT, Int.reduceLE, Int.reduceNeg, Int.reduceAdd, Int.reduceSub, Int.reduceMul, Int.reduceToNat, J_shl, J_shr, V_ite, true_or, or_true, nz_j, J_div, J_rem, Option.bind_some, Option.toList_some, Option.toList_none, List.cons_append, List.nil_append, Jl21, Jl23, Jl25, Jl74, Jl83, Jl288, Jl324, Jl1800, Jlm8]
        repeat (first | rw [if_neg (by omega)] | rw [if_pos (by omega)])
    · rw [if_neg c] at ei
      rw [if_neg c, Int.add_zero]
      simp (disch := omega) only [b243_17, b243_20, b243_47, gO_M hM, gR_M0 hM, gR_M1 hM, gR_M11 hM, gR_M13 hM, gR_M14 hM, gR_M15 hM, gR_M16 hM, gR_M17 hM, gR_M22 hM, gR_M32 hM, gR_M33 hM, gR_M34 hM, gR_M35 hM, gR_M36 hM, gR_M37 hM, gR_M38 hM, gR_M41 hM, gR_M42 hM, gR_M43 hM, gR_M45 hM, gR_M46 hM, gR_M47 hM, gR_M50 hM, gR_M51 hM, gR_M52 hM, al_M1 hM, al_M2 hM, al_M3 hM, al_M4 hM, al_M5 hM, al_M6 hM, al_M7 hM, al_M8 hM, al_M9 hM, al_M10 hM, al_M11 hM, al_M12 hM, al_M13 hM, al_M14 hM, al_M15 hM, al_M16 hM, al_M17 hM, al_M18 hM, al_M19 hM, al_M20 hM, al_M21 hM, al_M22 hM, al_M23 hM, al_M24 hM, al_M25 hM, rd_M1 hM, rd_M2 hM, rd_M3 hM, rd_M4 hM, rd_M5 hM, rd_M6 hM, rd_M7 hM, rd_M8 hM, rd_M9 hM, rd_M10 hM, rd_M11 hM, rd_M12 hM, rd_M13 hM, rd_M14 hM, rd_M15 hM, rd_M16 hM, rd_M17 hM, rd_M18 hM, rd_M19 hM, rd_M20 hM, rd_M21 hM, rd_M22 hM, rd_M23 hM, rd_M24 hM, rd_M25 hM, sB_0, sB_c, u3_sB0, u3_sB, u3_s, u3_n, Nat.reduceLT, hns, ei, Jl0, Jl1, Jl2, Jl3, Jl4, Jl5, Jl6, Jl7, Jl8, Jl9, Jl10, Jl11, Jl12, Jl13, Jl14, Jl15, Jl16, Jl17, Jl18, Jl19, Jl20, Jl22, Jl24, Jl28, Jl30, Jl31, Jl32, Jl35, Jl36, Jl37, Jl38, Jl39, Jl40, Jl48, Jl57, Jl59, Jl60, Jl61, Jl63, Jl64, Jl68, Jl69, Jl96, Jl97, Jl98, Jl99, Jl100, Jl122, Jl149, Jl150, Jl165, Jl255, Jl511, Jl512, Jl600, Jl610, Jl940, Jl968, Jl999, Jl1134, Jl1152, Jl2048, Jl4608, Jl9999, Jl99999, Jl100000, Jl147456, Jl12345, Jl1103515245, Jl100000000, Jlm1, Jlm2, J_add, J_sub, J_mul, J_lt, J_le, J_eq, J_ite, J_cl, ri_j, wi_j, b2i_z, b2i_o, b2i_zo, Int.cast_ofNat_Int, Int.natCast_zero, Int.natCast_one, if_true, if_false, ite_self, Int.le_refl, J_bit, J_or, J_neg, J_oN, Int.reduceEq, Int.reduceLT, Int.reduceLE, Int.reduceNeg, Int.reduceAdd, Int.reduceSub, Int.reduceMul, Int.reduceToNat, J_shl, J_shr, V_ite, true_or, or_true, nz_j, J_div, J_rem, Option.bind_some, Option.toList_some, Option.toList_none, List.cons_append, List.nil_append, Jl21, Jl23, Jl25, Jl74, Jl83, Jl288, Jl324, Jl1800, Jlm8]
      repeat (first | rw [if_neg (by omega)] | rw [if_pos (by omega)])) (by omega)
  simp (disch := omega) only [b243_0, b243_6, e243, gO_M hM, gR_M0 hM, gR_M1 hM, gR_M11 hM, gR_M13 hM, gR_M14 hM, gR_M15 hM, gR_M16 hM, gR_M17 hM, gR_M22 hM, gR_M32 hM, gR_M33 hM, gR_M34 hM, gR_M35 hM, gR_M36 hM, gR_M37 hM, gR_M38 hM, gR_M41 hM, gR_M42 hM, gR_M43 hM, gR_M45 hM, gR_M46 hM, gR_M47 hM, gR_M50 hM, gR_M51 hM, gR_M52 hM, al_M1 hM, al_M2 hM, al_M3 hM, al_M4 hM, al_M5 hM, al_M6 hM, al_M7 hM, al_M8 hM, al_M9 hM, al_M10 hM, al_M11 hM, al_M12 hM, al_M13 hM, al_M14 hM, al_M15 hM, al_M16 hM, al_M17 hM, al_M18 hM, al_M19 hM, al_M20 hM, al_M21 hM, al_M22 hM, al_M23 hM, al_M24 hM, al_M25 hM, rd_M1 hM, rd_M2 hM, rd_M3 hM, rd_M4 hM, rd_M5 hM, rd_M6 hM, rd_M7 hM, rd_M8 hM, rd_M9 hM, rd_M10 hM, rd_M11 hM, rd_M12 hM, rd_M13 hM, rd_M14 hM, rd_M15 hM, rd_M16 hM, rd_M17 hM, rd_M18 hM, rd_M19 hM, rd_M20 hM, rd_M21 hM, rd_M22 hM, rd_M23 hM, rd_M24 hM, rd_M25 hM, hr, Jl0, Jl1, Jl2, Jl3, Jl4, Jl5, Jl6, Jl7, Jl8, Jl9, Jl10, Jl11, Jl12, Jl13, Jl14, Jl15, Jl16, Jl17, Jl18, Jl19, Jl20, Jl22, Jl24, Jl28, Jl30, Jl31, Jl32, Jl35, Jl36, Jl37, Jl38, Jl39, Jl40, Jl48, Jl57, Jl59, Jl60, Jl61, Jl63, Jl64, Jl68, Jl69, Jl96, Jl97, Jl98, Jl99, Jl100, Jl122, Jl149, Jl150, Jl165, Jl255, Jl511, Jl512, Jl600, Jl610, Jl940, Jl968, Jl999, Jl1134, Jl1152, Jl2048, Jl4608, Jl9999, Jl99999, Jl100000, Jl147456, Jl12345, Jl1103515245, Jl100000000, Jlm1, Jlm2, J_add, J_sub, J_mul, J_lt, J_le, J_eq, J_ite, J_cl, ri_j, wi_j, b2i_z, b2i_o, b2i_zo, Int.cast_ofNat_Int, Int.natCast_zero, Int.natCast_one, if_true, if_false, ite_self, Int.le_refl, J_bit, J_or, J_neg, J_oN, Int.reduceEq, Int.reduceLT, Int.reduceLE, Int.reduceNeg, Int.reduceAdd, Int.reduceSub, Int.reduceMul, Int.reduceToNat, J_shl, J_shr, V_ite, true_or, or_true, nz_j, J_div, J_rem, Option.bind_some, Option.toList_some, Option.toList_none, List.cons_append, List.nil_append, Jl21, Jl23, Jl25, Jl74, Jl83, Jl288, Jl324, Jl1800, Jlm8]
  refine LL.trans ?_
  have hns := nS_sp (E := E) (lo := lo) (d := d) (I := I) (by omega) hM hR1
  rw [b243_11]
  simp (disch := omega) only [b243_17, b243_53, gO_M hM, gR_M0 hM, gR_M1 hM, gR_M11 hM, gR_M13 hM, gR_M14 hM, gR_M15 hM, gR_M16 hM, gR_M17 hM, gR_M22 hM, gR_M32 hM, gR_M33 hM, gR_M34 hM, gR_M35 hM, gR_M36 hM, gR_M37 hM, gR_M38 hM, gR_M41 hM, gR_M42 hM, gR_M43 hM, gR_M45 hM, gR_M46 hM, gR_M47 hM, gR_M50 hM, gR_M51 hM, gR_M52 hM, al_M1 hM, al_M2 hM, al_M3 hM, al_M4 hM, al_M5 hM, al_M6 hM, al_M7 hM, al_M8 hM, al_M9 hM, al_M10 hM, al_M11 hM, al_M12 hM, al_M13 hM, al_M14 hM, al_M15 hM, al_M16 hM, al_M17 hM, al_M18 hM, al_M19 hM, al_M20 hM, al_M21 hM, al_M22 hM, al_M23 hM, al_M24 hM, al_M25 hM, rd_M1 hM, rd_M2 hM, rd_M3 hM, rd_M4 hM, rd_M5 hM, rd_M6 hM, rd_M7 hM, rd_M8 hM, rd_M9 hM, rd_M10 hM, rd_M11 hM, rd_M12 hM, rd_M13 hM, rd_M14 hM, rd_M15 hM, rd_M16 hM, rd_M17 hM, rd_M18 hM, rd_M19 hM, rd_M20 hM, rd_M21 hM, rd_M22 hM, rd_M23 hM, rd_M24 hM, rd_M25 hM, hns, Jl0, Jl1, Jl2, Jl3, Jl4, Jl5, Jl6, Jl7, Jl8, Jl9, Jl10, Jl11, Jl12, Jl13, Jl14, Jl15, Jl16, Jl17, Jl18, Jl19, Jl20, Jl22, Jl24, Jl28, Jl30, Jl31, Jl32, Jl35, Jl36, Jl37, Jl38, Jl39, Jl40, Jl48, Jl57, Jl59, Jl60, Jl61, Jl63, Jl64, Jl68, Jl69, Jl96, Jl97, Jl98, Jl99, Jl100, Jl122, Jl149, Jl150, Jl165, Jl255, Jl511, Jl512, Jl600, Jl610, Jl940, Jl968, Jl999, Jl1134, Jl1152, Jl2048, Jl4608, Jl9999, Jl99999, Jl100000, Jl147456, Jl12345, Jl1103515245, Jl100000000, Jlm1, Jlm2, J_add, J_sub, J_mul, J_lt, J_le, J_eq, J_ite, J_cl, ri_j, wi_j, b2i_z, b2i_o, b2i_zo, Int.cast_ofNat_Int, Int.natCast_zero, Int.natCast_one, if_true, if_false, ite_self, Int.le_refl, J_bit, J_or, J_neg, J_oN, Int.reduceEq, Int.reduceLT, Int.reduceLE, Int.reduceNeg, Int.reduceAdd, Int.reduceSub, Int.reduceMul, Int.reduceToNat, J_shl, J_shr, V_ite, true_or, or_true, nz_j, J_div, J_rem, Option.bind_some, Option.toList_some, Option.toList_none, List.cons_append, List.nil_append, Jl21, Jl23, Jl25, Jl74, Jl83, Jl288, Jl324, Jl1800, Jlm8]
  rfl
/-- the best so far -/
def BST (M : Nat → Int → Int) (b : Int × Int × (Int → Int)) : Prop := M 0 40 = b.1 ∧ M 0 39 = b.2.1 ∧ ∀ i, 0 ≤ i → i < b.2.1 → M 16 i = b.2.2 i
theorem com2_sp (hd : 8 ≤ d) (hM : ShM μ m) (hl : lo ≤ m) (hW : RW M S) (hV : SV S) (hL : RL M L) (hLV : LV L) (hn : 0 ≤ n ∧ n < 9) (hh : 0 ≤ h ∧ h < 8) (hu : 0 ≤ u ∧ u < 36) (hs : 0 ≤ s ∧ s ≤ 90000) {b : Int × Int × (Int → Int)} {row : Int → Int} (hb : BST M b) (hb2 : 0 ≤ b.2.1 ∧ b.2.1 ≤ 9) (hb3 : b.2.1 ≠ 0 → -1 ≤ b.1 ∧ b.1 ≤ 100000) (hrow : ∀ j, 0 ≤ j → j < n → M 15 j = row j) : ∃ M', cl E lo d 244 [.ref m, .int (J (n)), .int (J (h)), .int (J (u)), .int (J (s))] (mj μ (sB I m 26 M)) = some (none, mj μ (sB I m 26 M')) ∧ RW M' S ∧ RL M' L ∧ (M' 1 = M 1 ∧ M' 2 = M 2) ∧ ((∀ j, M' 15 j = if j = n then h else M 15 j) ∧ (∀ j, M' 17 j = if j = n then u else M 17 j) ∧ (∀ j, M' 18 j = if j = n then s + chQ S L h u else M 18 j) ∧ ∀ j, M' 19 j = if j = n then 0 else M 19 j) ∧ BST M' (if b.2.1 = 0 ∨ b.1 < s + chQ S L h u then (s + chQ S L h u, n + 1, u1 row n h) else b) := by
  obtain ⟨d, rfl⟩ : ∃ e, d = e + 1 := ⟨d - 1, by omega⟩
  have v := hV.1
  have cb := chQ_b hV hLV (h := h) (u := u) hu
  generalize hMa : u3 (u3 M 15 n h) 17 n u = Ma
  have ac : ∀ c, c ≠ 15 → c ≠ 17 → Ma c = M c := fun c q1 q2 => by rw [← hMa, u3_c q2, u3_c q1]
  have hWa : RW Ma S := by
    refine ⟨hW.1.fr (by rw [ac 0 (by decide) (by decide)]) (by rw [ac 0 (by decide) (by decide)]) (ac 1 (by decide) (by decide)) (ac 4 (by decide) (by decide)) (ac 5 (by decide) (by decide)) (ac 7 (by decide) (by decide)) (ac 8 (by decide) (by decide)), ?_, by rw [ac 9 (by decide) (by decide)]; exact hW.2.2⟩
    have := hW.2.1
    unfold RBS at *
    rw [ac 0 (by decide) (by decide), ac 6 (by decide) (by decide)]
    exact this
  have hLa : RL Ma L := hL.fr (by rw [ac 0 (by decide) (by decide)]) (ac 1 (by decide) (by decide))
  obtain ⟨Mb, eb, bc⟩ := soa_sp (E := E) (lo := lo) (d := d) (I := I) (M := Ma) (h := h) (u := u) (by omega) hM hl hWa hV hLa hLV hh hu
  generalize hcq : chQ S L h u = cq at *
  generalize hMc : u3 (u3 Mb 18 n (s + cq)) 19 n 0 = Mc
  have cc : ∀ c, c ≠ 12 → c ≠ 15 → c ≠ 17 → c ≠ 18 → c ≠ 19 → Mc c = M c := fun c q1 q2 q3 q4 q5 => by rw [← hMc, u3_c q5, u3_c q4, bc c q1, ac c q2 q3]
  have r15 : ∀ j, Mc 15 j = if j = n then h else M 15 j := fun j => by
    rw [← hMc, u3_c (by decide), u3_c (by decide), bc 15 (by decide), ← hMa]; simp [u3]
  have r17 : ∀ j, Mc 17 j = if j = n then u else M 17 j := fun j => by
    rw [← hMc, u3_c (by decide), u3_c (by decide), bc 17 (by decide), ← hMa]; simp [u3]
  have r18 : ∀ j, Mc 18 j = if j = n then s + cq else M 18 j := fun j => by
    rw [← hMc, u3_c (by decide)]
    have : Mb 18 = M 18 := by rw [bc 18 (by decide), ac 18 (by decide) (by decide)]
    unfold u3
    rw [this]
    simp
  have r19 : ∀ j, Mc 19 j = if j = n then 0 else M 19 j := fun j => by
    have : Mb 19 = M 19 := by rw [bc 19 (by decide), ac 19 (by decide) (by decide)]
    rw [← hMc]
    unfold u3
    simp [this]
  have e18 : Mc 18 n = s + cq := by rw [r18, if_pos rfl]
  have c0 : Mc 0 = M 0 := cc 0 (by decide) (by decide) (by decide) (by decide) (by decide)
  have e39 : Mc 0 39 = b.2.1 := by rw [c0]; exact hb.2.1
  have e40 : Mc 0 40 = b.1 := by rw [c0]; exact hb.1
  have head : cl E lo (d + 1) 244 [.ref m, .int (J n), .int (J h), .int (J u), .int (J s)] (mj μ (sB I m 26 M)) = ex PG E lo d 244 36 [some (.ref m), some (.int (J (n))), some (.int (J (h))), some (.int (J (u))), some (.int (J (s))), none] [] (mj μ (sB I m 26 Mc)) := by
    rw [← hMc]
    simp (disch := omega) only [b244_0, b244_7, b244_14, b244_27, b244_29, e244, gO_M hM, gR_M0 hM, gR_M1 hM, gR_M11 hM, gR_M13 hM, gR_M14 hM, gR_M15 hM, gR_M16 hM, gR_M17 hM, gR_M22 hM, gR_M32 hM, gR_M33 hM, gR_M34 hM, gR_M35 hM, gR_M36 hM, gR_M37 hM, gR_M38 hM, gR_M41 hM, gR_M42 hM, gR_M43 hM, gR_M45 hM, gR_M46 hM, gR_M47 hM, gR_M50 hM, gR_M51 hM, gR_M52 hM, al_M1 hM, al_M2 hM, al_M3 hM, al_M4 hM, al_M5 hM, al_M6 hM, al_M7 hM, al_M8 hM, al_M9 hM, al_M10 hM, al_M11 hM, al_M12 hM, al_M13 hM, al_M14 hM, al_M15 hM, al_M16 hM, al_M17 hM, al_M18 hM, al_M19 hM, al_M20 hM, al_M21 hM, al_M22 hM, al_M23 hM, al_M24 hM, al_M25 hM, rd_M1 hM, rd_M2 hM, rd_M3 hM, rd_M4 hM, rd_M5 hM, rd_M6 hM, rd_M7 hM, rd_M8 hM, rd_M9 hM, rd_M10 hM, rd_M11 hM, rd_M12 hM, rd_M13 hM, rd_M14 hM, rd_M15 hM, rd_M16 hM, rd_M17 hM, rd_M18 hM, rd_M19 hM, rd_M20 hM, rd_M21 hM, rd_M22 hM, rd_M23 hM, rd_M24 hM, rd_M25 hM, gP_M hM hl, wr_M1 hM hl, wr_M2 hM hl, wr_M3 hM hl, wr_M4 hM hl, wr_M5 hM hl, wr_M6 hM hl, wr_M7 hM hl, wr_M8 hM hl, wr_M9 hM hl, wr_M10 hM hl, wr_M11 hM hl, wr_M12 hM hl, wr_M13 hM hl, wr_M14 hM hl, wr_M15 hM hl, wr_M16 hM hl, wr_M17 hM hl, wr_M18 hM hl, wr_M19 hM hl, wr_M20 hM hl, wr_M21 hM hl, wr_M22 hM hl, wr_M23 hM hl, wr_M24 hM hl, wr_M25 hM hl, sB_0, sB_c, u3_sB0, u3_sB, u3_s, u3_n, Nat.reduceLT, hMa, eb, Jl0, Jl1, Jl2, Jl3, Jl4, Jl5, Jl6, Jl7, Jl8, Jl9, Jl10, Jl11, Jl12, Jl13, Jl14, Jl15, Jl16, Jl17, Jl18, Jl19, Jl20, Jl22, Jl24, Jl28, Jl30, Jl31, Jl32, Jl35, Jl36, Jl37, Jl38, Jl39, Jl40, Jl48, Jl57, Jl59, Jl60, Jl61, Jl63, Jl64, Jl68, Jl69, Jl96, Jl97, Jl98, Jl99, Jl100, Jl122, Jl149, Jl150, Jl165, Jl255, Jl511, Jl512, Jl600, Jl610, Jl940, Jl968, Jl999, Jl1134, Jl1152, Jl2048, Jl4608, Jl9999, Jl99999, Jl100000, Jl147456, Jl12345, Jl1103515245, Jl100000000, Jlm1, Jlm2, J_add, J_sub, J_mul, J_lt, J_le, J_eq, J_ite, J_cl, ri_j, wi_j, b2i_z, b2i_o, b2i_zo, Int.cast_ofNat_Int, Int.natCast_zero, Int.natCast_one, if_true, if_false, ite_self, Int.le_refl, J_bit, J_or, J_neg, J_oN, Int.reduceEq, Int.reduceLT, Int.reduceLE, Int.reduceNeg, Int.reduceAdd, Int.reduceSub, Int.reduceMul, Int.reduceToNat, J_shl, J_shr, V_ite, true_or, or_true, nz_j, J_div, J_rem, Option.bind_some, Option.toList_some, Option.toList_none, List.cons_append, List.nil_append, Jl21, Jl23, Jl25, Jl74, Jl83, Jl288, Jl324, Jl1800, Jlm8]
  rw [head]
  -- frames of whatever comes
  have hWf : ∀ M' : Nat → Int → Int, (∀ c, c ≠ 0 → c ≠ 16 → M' c = Mc c) → (∀ j, j ≠ 39 → j ≠ 40 → M' 0 j = Mc 0 j) → RW M' S ∧ RL M' L ∧ (M' 1 = M 1 ∧ M' 2 = M 2) ∧ ((∀ j, M' 15 j = if j = n then h else M 15 j) ∧ (∀ j, M' 17 j = if j = n then u else M 17 j) ∧ (∀ j, M' 18 j = if j = n then s + cq else M 18 j) ∧ ∀ j, M' 19 j = if j = n then 0 else M 19 j) := by
    intro M' h1 h2
    have h1' : ∀ c, c ≠ 0 → c ≠ 16 → c ≠ 12 → c ≠ 15 → c ≠ 17 → c ≠ 18 → c ≠ 19 → M' c = M c := fun c q0 q1 q2 q3 q4 q5 q6 => by rw [h1 c q0 q1, cc c q2 q3 q4 q5 q6]
    have h2' : ∀ j, j ≠ 39 → j ≠ 40 → M' 0 j = M 0 j := fun j q1 q2 => by rw [h2 j q1 q2, c0]
    refine ⟨⟨hW.1.fr (h2' 12 (by decide) (by decide)) (h2' 18 (by decide) (by decide)) (h1' 1 (by decide) (by decide) (by decide) (by decide) (by decide) (by decide) (by decide)) (h1' 4 (by decide) (by decide) (by decide) (by decide) (by decide) (by decide) (by decide)) (h1' 5 (by decide) (by decide) (by decide) (by decide) (by decide) (by decide) (by decide)) (h1' 7 (by decide) (by decide) (by decide) (by decide) (by decide) (by decide) (by decide)) (h1' 8 (by decide) (by decide) (by decide) (by decide) (by decide) (by decide) (by decide)), ?_, by rw [h1' 9 (by decide) (by decide) (by decide) (by decide) (by decide) (by decide) (by decide)]; exact hW.2.2⟩, hL.fr (h2' 23 (by decide) (by decide)) (h1' 1 (by decide) (by decide) (by decide) (by decide) (by decide) (by decide) (by decide)), ⟨h1' 1 (by decide) (by decide) (by decide) (by decide) (by decide) (by decide) (by decide), h1' 2 (by decide) (by decide) (by decide) (by decide) (by decide) (by decide) (by decide)⟩, by rw [h1 15 (by decide) (by decide)]; exact r15, by rw [h1 17 (by decide) (by decide)]; exact r17, by rw [h1 18 (by decide) (by decide)]; exact r18, by rw [h1 19 (by decide) (by decide)]; exact r19⟩
    have := hW.2.1
    unfold RBS at *
    rw [h2' 19 (by decide) (by decide), h2' 21 (by decide) (by decide), h1' 6 (by decide) (by decide) (by decide) (by decide) (by decide) (by decide) (by decide)]
    exact this
  by_cases c : b.2.1 = 0 ∨ b.1 < s + cq
  · rw [if_pos c]
    generalize hMd : u3 (u3 Mc 0 40 (s + cq)) 0 39 (n + 1) = Md
    have d15 : Md 15 = Mc 15 := by rw [← hMd, u3_c (by decide), u3_c (by decide)]
    obtain ⟨Me, ee, f1, f2⟩ := loop (fun i M' => ex PG E lo d 244 77 [some (.ref m), some (.int (J (n))), some (.int (J (h))), some (.int (J (u))), some (.int (J (s))), some (.int (J (i)))] [] (mj μ (sB I m 26 M'))) (fun i M' => (∀ c, c ≠ 16 → M' c = Md c) ∧ ∀ k, 0 ≤ k → k < i → M' 16 k = Mc 15 k) (a := 0) (n := n + 1) (fun i M' g1 g2 hP => by
      obtain ⟨f1, f2⟩ := hP
      have p15 : M' 15 = Mc 15 := by rw [f1 15 (by decide), d15]
      refine ⟨u3 M' 16 i (Mc 15 i), ?_, fun c q => by rw [u3_c q, f1 c q], fun k q1 q2 => ?_⟩
      · rw [b244_77]
        simp (disch := omega) only [b244_83, b244_97, gO_M hM, gR_M0 hM, gR_M1 hM, gR_M11 hM, gR_M13 hM, gR_M14 hM, gR_M15 hM, gR_M16 hM, gR_M17 hM, gR_M22 hM, gR_M32 hM, gR_M33 hM, gR_M34 hM, gR_M35 hM, gR_M36 hM, gR_M37 hM, gR_M38 hM, gR_M41 hM, gR_M42 hM, gR_M43 hM, gR_M45 hM, gR_M46 hM, gR_M47 hM, gR_M50 hM, gR_M51 hM, gR_M52 hM, al_M1 hM, al_M2 hM, al_M3 hM, al_M4 hM, al_M5 hM, al_M6 hM, al_M7 hM, al_M8 hM, al_M9 hM, al_M10 hM, al_M11 hM, al_M12 hM, al_M13 hM, al_M14 hM, al_M15 hM, al_M16 hM, al_M17 hM, al_M18 hM, al_M19 hM, al_M20 hM, al_M21 hM, al_M22 hM, al_M23 hM, al_M24 hM, al_M25 hM, rd_M1 hM, rd_M2 hM, rd_M3 hM, rd_M4 hM, rd_M5 hM, rd_M6 hM, rd_M7 hM, rd_M8 hM, rd_M9 hM, rd_M10 hM, rd_M11 hM, rd_M12 hM, rd_M13 hM, rd_M14 hM, rd_M15 hM, rd_M16 hM, rd_M17 hM, rd_M18 hM, rd_M19 hM, rd_M20 hM, rd_M21 hM, rd_M22 hM, rd_M23 hM, rd_M24 hM, rd_M25 hM, gP_M hM hl, wr_M1 hM hl, wr_M2 hM hl, wr_M3 hM hl, wr_M4 hM hl, wr_M5 hM hl, wr_M6 hM hl, wr_M7 hM hl, wr_M8 hM hl, wr_M9 hM hl, wr_M10 hM hl, wr_M11 hM hl, wr_M12 hM hl, wr_M13 hM hl, wr_M14 hM hl, wr_M15 hM hl, wr_M16 hM hl, wr_M17 hM hl, wr_M18 hM hl, wr_M19 hM hl, wr_M20 hM hl, wr_M21 hM hl, wr_M22 hM hl, wr_M23 hM hl, wr_M24 hM hl, wr_M25 hM hl, sB_0, sB_c, u3_sB0, u3_sB, u3_s, u3_n, Nat.reduceLT, p15, Jl0, Jl1, Jl2, Jl3, Jl4, Jl5, Jl6, Jl7, Jl8, Jl9, Jl10, Jl11, Jl12, Jl13, Jl14, Jl15, Jl16, Jl17, Jl18, Jl19, Jl20, Jl22, Jl24, Jl28, Jl30, Jl31, Jl32, Jl35, Jl36, Jl37, Jl38, Jl39, Jl40, Jl48, Jl57, Jl59, Jl60, Jl61, Jl63, Jl64, Jl68, Jl69, Jl96, Jl97, Jl98, Jl99, Jl100, Jl122, Jl149, Jl150, Jl165, Jl255, Jl511, Jl512, Jl600, Jl610, Jl940, Jl968, Jl999, Jl1134, Jl1152, Jl2048, Jl4608, Jl9999, Jl99999, Jl100000, Jl147456, Jl12345, Jl1103515245, Jl100000000, Jlm1, Jlm2, J_add, J_sub, J_mul, J_lt, J_le, J_eq, J_ite, J_cl, ri_j, wi_j, b2i_z, b2i_o, b2i_zo, Int.cast_ofNat_Int, Int.natCast_zero, Int.natCast_one, if_true, if_false, ite_self, Int.le_refl, J_bit, J_or, J_neg, J_oN, Int.reduceEq, Int.reduceLT, Int.reduceLE, Int.reduceNeg, Int.reduceAdd, Int.reduceSub, Int.reduceMul, Int.reduceToNat, J_shl, J_shr, V_ite, true_or, or_true, nz_j, J_div, J_rem, Option.bind_some, Option.toList_some, Option.toList_none, List.cons_append, List.nil_append, Jl21, Jl23, Jl25, Jl74, Jl83, Jl288, Jl324, Jl1800, Jlm8]
        repeat (first | rw [if_neg (by omega)] | rw [if_pos (by omega)])
      · have := f2 k q1
        unfold u3
        grind) (by omega) Md ⟨fun c _ => rfl, fun k q1 q2 => by omega⟩
    have hf := hWf Me (fun c q0 q1 => by rw [f1 c q1, ← hMd, u3_c q0, u3_c q0]) (fun j q1 q2 => by rw [f1 0 (by decide), ← hMd, u3_n (by omega), u3_n (by omega)])
    refine ⟨Me, ?_, hf.1, hf.2.1, hf.2.2.1, hf.2.2.2, ?_, ?_, fun i q1 q2 => ?_⟩
    · have e36 : ex PG E lo d 244 36 [some (.ref m), some (.int (J (n))), some (.int (J (h))), some (.int (J (u))), some (.int (J (s))), none] [] (mj μ (sB I m 26 Mc)) = ex PG E lo d 244 77 [some (.ref m), some (.int (J (n))), some (.int (J (h))), some (.int (J (u))), some (.int (J (s))), some (.int (J (0)))] [] (mj μ (sB I m 26 Md)) := by
        rw [← hMd]
        by_cases c1 : b.2.1 = 0
        · simp (disch := omega) only [b244_36, b244_57, b244_67, b244_74, gO_M hM, gR_M0 hM, gR_M1 hM, gR_M11 hM, gR_M13 hM, gR_M14 hM, gR_M15 hM, gR_M16 hM, gR_M17 hM, gR_M22 hM, gR_M32 hM, gR_M33 hM, gR_M34 hM, gR_M35 hM, gR_M36 hM, gR_M37 hM, gR_M38 hM, gR_M41 hM, gR_M42 hM, gR_M43 hM, gR_M45 hM, gR_M46 hM, gR_M47 hM, gR_M50 hM, gR_M51 hM, gR_M52 hM, al_M1 hM, al_M2 hM, al_M3 hM, al_M4 hM, al_M5 hM, al_M6 hM, al_M7 hM, al_M8 hM, al_M9 hM, al_M10 hM, al_M11 hM, al_M12 hM, al_M13 hM, al_M14 hM, al_M15 hM, al_M16 hM, al_M17 hM, al_M18 hM, al_M19 hM, al_M20 hM, al_M21 hM, al_M22 hM, al_M23 hM, al_M24 hM, al_M25 hM, rd_M1 hM, rd_M2 hM, rd_M3 hM, rd_M4 hM, rd_M5 hM, rd_M6 hM, rd_M7 hM, rd_M8 hM, rd_M9 hM, rd_M10 hM, rd_M11 hM, rd_M12 hM, rd_M13 hM, rd_M14 hM, rd_M15 hM, rd_M16 hM, rd_M17 hM, rd_M18 hM, rd_M19 hM, rd_M20 hM, rd_M21 hM, rd_M22 hM, rd_M23 hM, rd_M24 hM, rd_M25 hM, gP_M hM hl, wr_M1 hM hl, wr_M2 hM hl, wr_M3 hM hl, wr_M4 hM hl, wr_M5 hM hl, wr_M6 hM hl, wr_M7 hM hl, wr_M8 hM hl, wr_M9 hM hl, wr_M10 hM hl, wr_M11 hM hl, wr_M12 hM hl, wr_M13 hM hl, wr_M14 hM hl, wr_M15 hM hl, wr_M16 hM hl, wr_M17 hM hl, wr_M18 hM hl, wr_M19 hM hl, wr_M20 hM hl, wr_M21 hM hl, wr_M22 hM hl, wr_M23 hM hl, wr_M24 hM hl, wr_M25 hM hl, sB_0, sB_c, u3_sB0, u3_sB, u3_s, u3_n, Nat.reduceLT, e39, e18, c1, Jl0, Jl1, Jl2, Jl3, Jl4, Jl5, Jl6, Jl7, Jl8, Jl9, Jl10, Jl11, Jl12, Jl13, Jl14, Jl15, Jl16, Jl17, Jl18, Jl19, Jl20, Jl22, Jl24, Jl28, Jl30, Jl31, Jl32, Jl35, Jl36, Jl37, Jl38, Jl39, Jl40, Jl48, Jl57, Jl59, Jl60, Jl61, Jl63, Jl64, Jl68, Jl69, Jl96, Jl97, Jl98, Jl99, Jl100, Jl122, Jl149, Jl150, Jl165, Jl255, Jl511, Jl512, Jl600, Jl610, Jl940, Jl968, Jl999, Jl1134, Jl1152, Jl2048, Jl4608, Jl9999, Jl99999, Jl100000, Jl147456, Jl12345, Jl1103515245, Jl100000000, Jlm1, Jlm2, J_add, J_sub, J_mul, J_lt, J_le, J_eq, J_ite, J_cl, ri_j, wi_j, b2i_z, b2i_o, b2i_zo, Int.cast_ofNat_Int, Int.natCast_zero, Int.natCast_one, if_true, if_false, ite_self, Int.le_refl, J_bit, J_or, J_neg, J_oN, Int.reduceEq, Int.reduceLT, Int.reduceLE, Int.reduceNeg, Int.reduceAdd, Int.reduceSub, Int.reduceMul, Int.reduceToNat, J_shl, J_shr, V_ite, true_or, or_true, nz_j, J_div, J_rem, Option.bind_some, Option.toList_some, Option.toList_none, List.cons_append, List.nil_append, Jl21, Jl23, Jl25, Jl74, Jl83, Jl288, Jl324, Jl1800, Jlm8]
        · have c2 : b.1 < s + cq := by omega
          have hb4 := hb3 c1
          simp (disch := omega) only [b244_36, b244_43, b244_57, b244_67, b244_74, gO_M hM, gR_M0 hM, gR_M1 hM, gR_M11 hM, gR_M13 hM, gR_M14 hM, gR_M15 hM, gR_M16 hM, gR_M17 hM, gR_M22 hM, gR_M32 hM, gR_M33 hM, gR_M34 hM, gR_M35 hM, gR_M36 hM, gR_M37 hM, gR_M38 hM, gR_M41 hM, gR_M42 hM, gR_M43 hM, gR_M45 hM, gR_M46 hM, gR_M47 hM, gR_M50 hM, gR_M51 hM, gR_M52 hM, al_M1 hM, al_M2 hM, al_M3 hM, al_M4 hM, al_M5 hM, al_M6 hM, al_M7 hM, al_M8 hM, al_M9 hM, al_M10 hM, al_M11 hM, al_M12 hM, al_M13 hM, al_M14 hM, al_M15 hM, al_M16 hM, al_M17 hM, al_M18 hM, al_M19 hM, al_M20 hM, al_M21 hM, al_M22 hM, al_M23 hM, al_M24 hM, al_M25 hM, rd_M1 hM, rd_M2 hM, rd_M3 hM, rd_M4 hM, rd_M5 hM, rd_M6 hM, rd_M7 hM, rd_M8 hM, rd_M9 hM, rd_M10 hM, rd_M11 hM, rd_M12 hM, rd_M13 hM, rd_M14 hM, rd_M15 hM, rd_M16 hM, rd_M17 hM, rd_M18 hM, rd_M19 hM, rd_M20 hM, rd_M21 hM, rd_M22 hM, rd_M23 hM, rd_M24 hM, rd_M25 hM, gP_M hM hl, wr_M1 hM hl, wr_M2 hM hl, wr_M3 hM hl, wr_M4 hM hl, wr_M5 hM hl, wr_M6 hM hl, wr_M7 hM hl, wr_M8 hM hl, wr_M9 hM hl, wr_M10 hM hl, wr_M11 hM hl, wr_M12 hM hl, wr_M13 hM hl, wr_M14 hM hl, wr_M15 hM hl, wr_M16 hM hl, wr_M17 hM hl, wr_M18 hM hl, wr_M19 hM hl, wr_M20 hM hl, wr_M21 hM hl, wr_M22 hM hl, wr_M23 hM hl, wr_M24 hM hl, wr_M25 hM hl, sB_0, sB_c, u3_sB0, u3_sB, u3_s, u3_n, Nat.reduceLT, e39, e40, e18, c2, Jl0, Jl1, Jl2, Jl3, Jl4, Jl5, Jl6, Jl7, Jl8, Jl9, Jl10, Jl11, Jl12, Jl13, Jl14, Jl15, Jl16, Jl17, Jl18, Jl19, Jl20, Jl22, Jl24, Jl28, Jl30, Jl31, Jl32, Jl35, Jl36, Jl37, Jl38, Jl39, Jl40, Jl48, Jl57, Jl59, Jl60, Jl61, Jl63, Jl64, Jl68, Jl69, Jl96, Jl97, Jl98, Jl99, Jl100, Jl122, Jl149, Jl150, Jl165, Jl255, Jl511, Jl512, Jl600, Jl610, Jl940, Jl968, Jl999, Jl1134, Jl1152, Jl2048, Jl4608, Jl9999, Jl99999, Jl100000, Jl147456, Jl12345, Jl1103515245, Jl100000000, Jlm1, Jlm2, J_add, J_sub, J_mul, J_lt, J_le, J_eq, J_ite, J_cl, ri_j, wi_j, b2i_z, b2i_o, b2i_zo, Int.cast_ofNat_Int, Int.natCast_zero, Int.natCast_one, if_true, if_false, ite_self, Int.le_refl, J_bit, J_or, J_neg, J_oN, Int.reduceEq, Int.reduceLT, Int.reduceLE, Int.reduceNeg, Int.reduceAdd, Int.reduceSub, Int.reduceMul, Int.reduceToNat, J_shl, J_shr, V_ite, true_or, or_true, nz_j, J_div, J_rem, Option.bind_some, Option.toList_some, Option.toList_none, List.cons_append, List.nil_append, Jl21, Jl23, Jl25, Jl74, Jl83, Jl288, Jl324, Jl1800, Jlm8]
          repeat (first | rw [if_neg (by omega)] | rw [if_pos (by omega)])
      rw [e36, ee, b244_77]
      simp (disch := omega) only [b244_103, Jl0, Jl1, Jl2, Jl3, Jl4, Jl5, Jl6, Jl7, Jl8, Jl9, Jl10, Jl11, Jl12, Jl13, Jl14, Jl15, Jl16, Jl17, Jl18, Jl19, Jl20, Jl22, Jl24, Jl28, Jl30, Jl31, Jl32, Jl35, Jl36, Jl37, Jl38, Jl39, Jl40, Jl48, Jl57, Jl59, Jl60, Jl61, Jl63, Jl64, Jl68, Jl69, Jl96, Jl97, Jl98, Jl99, Jl100, Jl122, Jl149, Jl150, Jl165, Jl255, Jl511, Jl512, Jl600, Jl610, Jl940, Jl968, Jl999, Jl1134, Jl1152, Jl2048, Jl4608, Jl9999, Jl99999, Jl100000, Jl147456, Jl12345, Jl1103515245, Jl100000000, Jlm1, Jlm2, J_add, J_sub, J_mul, J_lt, J_le, J_eq, J_ite, J_cl, ri_j, wi_j, b2i_z, b2i_o, b2i_zo, Int.cast_ofNat_Int, Int.natCast_zero, Int.natCast_one, if_true, if_false, ite_self, Int.le_refl, J_bit, J_or, J_neg, J_oN, Int.reduceEq, Int.reduceLT, Int.reduceLE, Int.reduceNeg, Int.reduceAdd, Int.reduceSub, Int.reduceMul, Int.reduceToNat, J_shl, J_shr, V_ite, true_or, or_true, nz_j, J_div, J_rem, Option.bind_some, Option.toList_some, Option.toList_none, List.cons_append, List.nil_append, Jl21, Jl23, Jl25, Jl74, Jl83, Jl288, Jl324, Jl1800, Jlm8]
      repeat (first | rw [if_neg (by omega)] | rw [if_pos (by omega)])
    · rw [f1 0 (by decide), ← hMd, u3_n (by omega), u3_s]
    · rw [f1 0 (by decide), ← hMd, u3_s]
    · dsimp only at q2 ⊢
      rw [f2 i q1 q2, r15]
      unfold u1
      by_cases ci : i = n
      · rw [if_pos ci, if_pos ci]
      · rw [if_neg ci, if_neg ci]
        exact hrow i q1 (by omega)
  · rw [if_neg c]
    have c1 : ¬ b.2.1 = 0 := fun q => c (Or.inl q)
    have c2 : ¬ b.1 < s + cq := fun q => c (Or.inr q)
    have hb4 := hb3 c1
    have hf := hWf Mc (fun _ _ _ => rfl) (fun _ _ _ => rfl)
    refine ⟨Mc, ?_, hf.1, hf.2.1, hf.2.2.1, hf.2.2.2, e40, e39, fun i q1 q2 => ?_⟩
    · simp (disch := omega) only [b244_36, b244_43, b244_56, gO_M hM, gR_M0 hM, gR_M1 hM, gR_M11 hM, gR_M13 hM, gR_M14 hM, gR_M15 hM, gR_M16 hM, gR_M17 hM, gR_M22 hM, gR_M32 hM, gR_M33 hM, gR_M34 hM, gR_M35 hM, gR_M36 hM, gR_M37 hM, gR_M38 hM, gR_M41 hM, gR_M42 hM, gR_M43 hM, gR_M45 hM, gR_M46 hM, gR_M47 hM, gR_M50 hM, gR_M51 hM, gR_M52 hM, al_M1 hM, al_M2 hM, al_M3 hM, al_M4 hM, al_M5 hM, al_M6 hM, al_M7 hM, al_M8 hM, al_M9 hM, al_M10 hM, al_M11 hM, al_M12 hM, al_M13 hM, al_M14 hM, al_M15 hM, al_M16 hM, al_M17 hM, al_M18 hM, al_M19 hM, al_M20 hM, al_M21 hM, al_M22 hM, al_M23 hM, al_M24 hM, al_M25 hM, rd_M1 hM, rd_M2 hM, rd_M3 hM, rd_M4 hM, rd_M5 hM, rd_M6 hM, rd_M7 hM, rd_M8 hM, rd_M9 hM, rd_M10 hM, rd_M11 hM, rd_M12 hM, rd_M13 hM, rd_M14 hM, rd_M15 hM, rd_M16 hM, rd_M17 hM, rd_M18 hM, rd_M19 hM, rd_M20 hM, rd_M21 hM, rd_M22 hM, rd_M23 hM, rd_M24 hM, rd_M25 hM, sB_0, sB_c, u3_sB0, u3_sB, u3_s, u3_n, Nat.reduceLT, e39, e40, e18, c2, Jl0, Jl1, Jl2, Jl3, Jl4, Jl5, Jl6, Jl7, Jl8, Jl9, Jl10, Jl11, Jl12, Jl13, Jl14, Jl15, Jl16, Jl17, Jl18, Jl19, Jl20, Jl22, Jl24, Jl28, Jl30, Jl31, Jl32, Jl35, Jl36, Jl37, Jl38, Jl39, Jl40, Jl48, Jl57, Jl59, Jl60, Jl61, Jl63, Jl64, Jl68, Jl69, Jl96, Jl97, Jl98, Jl99, Jl100, Jl122, Jl149, Jl150, Jl165, Jl255, Jl511, Jl512, Jl600, Jl610, Jl940, Jl968, Jl999, Jl1134, Jl1152, Jl2048, Jl4608, Jl9999, Jl99999, Jl100000, Jl147456, Jl12345, Jl1103515245, Jl100000000, Jlm1, Jlm2, J_add, J_sub, J_mul, J_lt, J_le, J_eq, J_ite, J_cl, ri_j, wi_j, b2i_z, b2i_o, b2i_zo, Int.cast_ofNat_Int, Int.natCast_zero, Int.natCast_one, if_true, if_false, ite_self, Int.le_refl, J_bit, J_or, J_neg, J_oN, Int.reduceEq, Int.reduceLT, Int.reduceLE, Int.reduceNeg, Int.reduceAdd, Int.reduceSub, Int.reduceMul, Int.reduceToNat, J_shl, J_shr, V_ite, true_or, or_true, nz_j, J_div, J_rem, Option.bind_some, Option.toList_some, Option.toList_none, List.cons_append, List.nil_append, Jl21, Jl23, Jl25, Jl74, Jl83, Jl288, Jl324, Jl1800, Jlm8]
      repeat (first | rw [if_neg (by omega)] | rw [if_pos (by omega)])
    · rw [cc 16 (by decide) (by decide) (by decide) (by decide) (by decide)]
      exact hb.2.2 i q1 q2
theorem in0_sp (hd : 1 ≤ d) (hM : ShM μ m) (hn : 0 ≤ n ∧ n < 9) (hk : 0 ≤ k ∧ k < 8) {row : Int → Int} (hr : ∀ j, 0 ≤ j → j ≤ n → M 15 j = row j ∧ 0 ≤ row j ∧ row j < 8) : cl E lo d 245 [.ref m, .int (J (k)), .int (J (n))] (mj μ (sB I m 26 M)) = some (some (.int (J (b2i (an (fun j => decide (row j = k)) (n + 1))))), mj μ (sB I m 26 M)) := by
  obtain ⟨d, rfl⟩ : ∃ e, d = e + 1 := ⟨d - 1, by omega⟩
  have LL := tele (fun i => ex PG E lo d 245 5 [some (.ref m), some (.int (J (k))), some (.int (J (n))), some (.int (J (b2i (an (fun j => decide (row j = k)) i)))), some (.int (J (i)))] [] (mj μ (sB I m 26 M))) (a := 0) (n := n + 1) (fun i f1 f2 => by
    have ri := hr i f1 (by omega)
    rw [b245_5, an_s _ f1]
    cases an (fun j => decide (row j = k)) i
    · by_cases c : row i = k
      · simp (disch := omega) only [b245_11, b245_15, b245_26, b245_31, gO_M hM, gR_M0 hM, gR_M1 hM, gR_M11 hM, gR_M13 hM, gR_M14 hM, gR_M15 hM, gR_M16 hM, gR_M17 hM, gR_M22 hM, gR_M32 hM, gR_M33 hM, gR_M34 hM, gR_M35 hM, gR_M36 hM, gR_M37 hM, gR_M38 hM, gR_M41 hM, gR_M42 hM, gR_M43 hM, gR_M45 hM, gR_M46 hM, gR_M47 hM, gR_M50 hM, gR_M51 hM, gR_M52 hM, al_M1 hM, al_M2 hM, al_M3 hM, al_M4 hM, al_M5 hM, al_M6 hM, al_M7 hM, al_M8 hM, al_M9 hM, al_M10 hM, al_M11 hM, al_M12 hM, al_M13 hM, al_M14 hM, al_M15 hM, al_M16 hM, al_M17 hM, al_M18 hM, al_M19 hM, al_M20 hM, al_M21 hM, al_M22 hM, al_M23 hM, al_M24 hM, al_M25 hM, rd_M1 hM, rd_M2 hM, rd_M3 hM, rd_M4 hM, rd_M5 hM, rd_M6 hM, rd_M7 hM, rd_M8 hM, rd_M9 hM, rd_M10 hM, rd_M11 hM, rd_M12 hM, rd_M13 hM, rd_M14 hM, rd_M15 hM, rd_M16 hM, rd_M17 hM, rd_M18 hM, rd_M19 hM, rd_M20 hM, rd_M21 hM, rd_M22 hM, rd_M23 hM, rd_M24 hM, rd_M25 hM, sB_0, sB_c, u3_sB0, u3_sB, u3_s, u3_n, Nat.reduceLT, ri.1, c, decide_true, Bool.or_true, b2i_t, Jl0, Jl1, Jl2, Jl3, Jl4, Jl5, Jl6, Jl7, Jl8, Jl9, Jl10, Jl11, Jl12, Jl13, Jl14, Jl15, Jl16, Jl17, Jl18, Jl19, Jl20, Jl22, Jl24, Jl28, Jl30, Jl31, Jl32, Jl35, Jl36, Jl37, Jl38, Jl39, Jl40, Jl48, Jl57, Jl59, Jl60, Jl61, Jl63, Jl64, Jl68, Jl69, Jl96, Jl97, Jl98, Jl99, Jl100, Jl122, Jl149, Jl150, Jl165, Jl255, Jl511, Jl512, Jl600, Jl610, Jl940, Jl968, Jl999, Jl1134, Jl1152, Jl2048, Jl4608, Jl9999, Jl99999, Jl100000, Jl147456, Jl12345, Jl1103515245, Jl100000000, Jlm1, Jlm2, J_add, J_sub, J_mul, J_lt, J_le, J_eq, J_ite, J_cl, ri_j, wi_j, b2i_z, b2i_o, b2i_zo, Int.cast_ofNat_Int, Int.natCast_zero, Int.natCast_one, if_true, if_false, ite_self, Int.le_refl, J_bit, J_or, J_neg, J_oN, Int.reduceEq, Int.reduceLT, Int.reduceLE, Int.reduceNeg, Int.reduceAdd, Int.reduceSub, Int.reduceMul, Int.reduceToNat, J_shl, J_shr, V_ite, true_or, or_true, nz_j, J_div, J_rem, Option.bind_some, Option.toList_some, Option.toList_none, List.cons_append, List.nil_append, Jl21, Jl23, Jl25, Jl74, Jl83, Jl288, Jl324, Jl1800, Jlm8]
        repeat (first | rw [if_neg (by omega)] | rw [if_pos (by omega)])
      · simp (disch := omega) only [b245_11, b245_15, b245_30, b245_31, gO_M hM, gR_M0 hM, gR_M1 hM, gR_M11 hM, gR_M13 hM, gR_M14 hM, gR_M15 hM, gR_M16 hM, gR_M17 hM, gR_M22 hM, gR_M32 hM, gR_M33 hM, gR_M34 hM, gR_M35 hM, gR_M36 hM, gR_M37 hM, gR_M38 hM, gR_M41 hM, gR_M42 hM, gR_M43 hM, gR_M45 hM, gR_M46 hM, gR_M47 hM, gR_M50 hM, gR_M51 hM, gR_M52 hM, al_M1 hM, al_M2 hM, al_M3 hM, al_M4 hM, al_M5 hM, al_M6 hM, al_M7 hM, al_M8 hM, al_M9 hM, al_M10 hM, al_M11 hM, al_M12 hM, al_M13 hM, al_M14 hM, al_M15 hM, al_M16 hM, al_M17 hM, al_M18 hM, al_M19 hM, al_M20 hM, al_M21 hM, al_M22 hM, al_M23 hM, al_M24 hM, al_M25 hM, rd_M1 hM, rd_M2 hM, rd_M3 hM, rd_M4 hM, rd_M5 hM, rd_M6 hM, rd_M7 hM, rd_M8 hM, rd_M9 hM, rd_M10 hM, rd_M11 hM, rd_M12 hM, rd_M13 hM, rd_M14 hM, rd_M15 hM, rd_M16 hM, rd_M17 hM, rd_M18 hM, rd_M19 hM, rd_M20 hM, rd_M21 hM, rd_M22 hM, rd_M23 hM, rd_M24 hM, rd_M25 hM, sB_0, sB_c, u3_sB0, u3_sB, u3_s, u3_n, Nat.reduceLT, ri.1, c, decide_false, Bool.or_false, b2i_f, Jl0, Jl1, Jl2, Jl3, Jl4, Jl5, Jl6, Jl7, Jl8, Jl9, Jl10, Jl11, Jl12, Jl13, Jl14, Jl15, Jl16, Jl17, Jl18, Jl19, Jl20, Jl22, Jl24, Jl28, Jl30, Jl31, Jl32, Jl35, Jl36, Jl37, Jl38, Jl39, Jl40, Jl48, Jl57, Jl59, Jl60, Jl61, Jl63, Jl64, Jl68, Jl69, Jl96, Jl97, Jl98, Jl99, Jl100, Jl122, Jl149, Jl150, Jl165, Jl255, Jl511, Jl512, Jl600, Jl610, Jl940, Jl968, Jl999, Jl1134, Jl1152, Jl2048, Jl4608, Jl9999, Jl99999, Jl100000, Jl147456, Jl12345, Jl1103515245, Jl100000000, Jlm1, Jlm2, J_add, J_sub, J_mul, J_lt, J_le, J_eq, J_ite, J_cl, ri_j, wi_j, b2i_z, b2i_o, b2i_zo, Int.cast_ofNat_Int, Int.natCast_zero, Int.natCast_one, if_true, if_false, ite_self, Int.le_refl, J_bit, J_or, J_neg, J_oN, Int.reduceEq, Int.reduceLT, Int.reduceLE, Int.reduceNeg, Int.reduceAdd, Int.reduceSub, Int.reduceMul, Int.reduceToNat, J_shl, J_shr, V_ite, true_or, or_true, nz_j, J_div, J_rem, Option.bind_some, Option.toList_some, Option.toList_none, List.cons_append, List.nil_append, Jl21, Jl23, Jl25, Jl74, Jl83, Jl288, Jl324, Jl1800, Jlm8]
        repeat (first | rw [if_neg (by omega)] | rw [if_pos (by omega)])
    · simp (disch := omega) only [b245_11, b245_26, b245_31, Bool.true_eq_false, Bool.true_or, b2i_t, Jl0, Jl1, Jl2, Jl3, Jl4, Jl5, Jl6, Jl7, Jl8, Jl9, Jl10, Jl11, Jl12, Jl13, Jl14, Jl15, Jl16, Jl17, Jl18, Jl19, Jl20, Jl22, Jl24, Jl28, Jl30, Jl31, Jl32, Jl35, Jl36, Jl37, Jl38, Jl39, Jl40, Jl48, Jl57, Jl59, Jl60, Jl61, Jl63, Jl64, Jl68, Jl69, Jl96, Jl97, Jl98, Jl99, Jl100, Jl122, Jl149, Jl150, Jl165, Jl255, Jl511, Jl512, Jl600, Jl610, Jl940, Jl968, Jl999, Jl1134, Jl1152, Jl2048, Jl4608, Jl9999, Jl99999, Jl100000, Jl147456, Jl12345, Jl1103515245, Jl100000000, Jlm1, Jlm2, J_add, J_sub, J_mul, J_lt, J_le, J_eq, J_ite, J_cl, ri_j, wi_j, b2i_z, b2i_o, b2i_zo, Int.cast_ofNat_Int, Int.natCast_zero, Int.natCast_one, if_true, if_false, ite_self, Int.le_refl, J_bit, J_or, J_neg, J_oN, Int.reduceEq, Int.reduceLT, Int.reduceLE, Int.reduceNeg, Int.reduceAdd, Int.reduceSub, Int.reduceMul, Int.reduceToNat, J_shl, J_shr, V_ite, true_or, or_true, nz_j, J_div, J_rem, Option.bind_some, Option.toList_some, Option.toList_none, List.cons_append, List.nil_append, Jl21, Jl23, Jl25, Jl74, Jl83, Jl288, Jl324, Jl1800, Jlm8]
      repeat (first | rw [if_neg (by omega)] | rw [if_pos (by omega)])) (by omega)
  simp (disch := omega) only [b245_0, e245, Jl0, Jl1, Jl2, Jl3, Jl4, Jl5, Jl6, Jl7, Jl8, Jl9, Jl10, Jl11, Jl12, Jl13, Jl14, Jl15, Jl16, Jl17, Jl18, Jl19, Jl20, Jl22, Jl24, Jl28, Jl30, Jl31, Jl32, Jl35, Jl36, Jl37, Jl38, Jl39, Jl40, Jl48, Jl57, Jl59, Jl60, Jl61, Jl63, Jl64, Jl68, Jl69, Jl96, Jl97, Jl98, Jl99, Jl100, Jl122, Jl149, Jl150, Jl165, Jl255, Jl511, Jl512, Jl600, Jl610, Jl940, Jl968, Jl999, Jl1134, Jl1152, Jl2048, Jl4608, Jl9999, Jl99999, Jl100000, Jl147456, Jl12345, Jl1103515245, Jl100000000, Jlm1, Jlm2, J_add, J_sub, J_mul, J_lt, J_le, J_eq, J_ite, J_cl, ri_j, wi_j, b2i_z, b2i_o, b2i_zo, Int.cast_ofNat_Int, Int.natCast_zero, Int.natCast_one, if_true, if_false, ite_self, Int.le_refl, J_bit, J_or, J_neg, J_oN, Int.reduceEq, Int.reduceLT, Int.reduceLE, Int.reduceNeg, Int.reduceAdd, Int.reduceSub, Int.reduceMul, Int.reduceToNat, J_shl, J_shr, V_ite, true_or, or_true, nz_j, J_div, J_rem, Option.bind_some, Option.toList_some, Option.toList_none, List.cons_append, List.nil_append, Jl21, Jl23, Jl25, Jl74, Jl83, Jl288, Jl324, Jl1800, Jlm8]
  refine LL.trans ?_
  rw [b245_5]
  simp (disch := omega) only [b245_38, Jl0, Jl1, Jl2, Jl3, Jl4, Jl5, Jl6, Jl7, Jl8, Jl9, Jl10, Jl11, Jl12, Jl13, Jl14, Jl15, Jl16, Jl17, Jl18, Jl19, Jl20, Jl22, Jl24, Jl28, Jl30, Jl31, Jl32, Jl35, Jl36, Jl37, Jl38, Jl39, Jl40, Jl48, Jl57, Jl59, Jl60, Jl61, Jl63, Jl64, Jl68, Jl69, Jl96, Jl97, Jl98, Jl99, Jl100, Jl122, Jl149, Jl150, Jl165, Jl255, Jl511, Jl512, Jl600, Jl610, Jl940, Jl968, Jl999, Jl1134, Jl1152, Jl2048, Jl4608, Jl9999, Jl99999, Jl100000, Jl147456, Jl12345, Jl1103515245, Jl100000000, Jlm1, Jlm2, J_add, J_sub, J_mul, J_lt, J_le, J_eq, J_ite, J_cl, ri_j, wi_j, b2i_z, b2i_o, b2i_zo, Int.cast_ofNat_Int, Int.natCast_zero, Int.natCast_one, if_true, if_false, ite_self, Int.le_refl, J_bit, J_or, J_neg, J_oN, Int.reduceEq, Int.reduceLT, Int.reduceLE, Int.reduceNeg, Int.reduceAdd, Int.reduceSub, Int.reduceMul, Int.reduceToNat, J_shl, J_shr, V_ite, true_or, or_true, nz_j, J_div, J_rem, Option.bind_some, Option.toList_some, Option.toList_none, List.cons_append, List.nil_append, Jl21, Jl23, Jl25, Jl74, Jl83, Jl288, Jl324, Jl1800, Jlm8]
  repeat (first | rw [if_neg (by omega)] | rw [if_pos (by omega)])
end REF
