/-! THE CLASS: ways told by a catch -/
theorem J_su {x r : Int} (hx : 0 ≤ x ∧ x < 512) (hr : 0 ≤ r ∧ r < 512) : (J x &&& (J r ^^^ J (-1)) = J 0) = (suQ x r = true) := by
  have e0 : (J x &&& (J r ^^^ J (-1))).toBitVec = BitVec.ofNat 32 x.toNat &&& (BitVec.ofNat 32 r.toNat ^^^ BitVec.allOnes 32) := by
    rw [Int32.toBitVec_and, Int32.toBitVec_xor, J_Nn hx.1, J_Nn hr.1]
    rfl
  have bit : ∀ j : Nat, (BitVec.ofNat 32 x.toNat &&& (BitVec.ofNat 32 r.toNat ^^^ BitVec.allOnes 32)).getLsbD j = (decide (j < 32) && (x.toNat.testBit j && !r.toNat.testBit j)) := fun j => by
    rw [BitVec.getLsbD_and, BitVec.getLsbD_xor, BitVec.getLsbD_ofNat, BitVec.getLsbD_ofNat, BitVec.getLsbD_allOnes]
    cases decide (j < 32) <;> cases x.toNat.testBit j <;> cases r.toNat.testBit j <;> rfl
  apply propext
  rw [← Int32.toBitVec_inj, e0, show (J 0).toBitVec = 0#32 from rfl]
  unfold suQ
  rw [al_iff _ (by omega)]
  constructor
  · intro h j y1 y2
    have b := bit j.toNat
    rw [h, BitVec.getLsbD_zero, decide_eq_true (by omega : j.toNat < 32), Bool.true_and] at b
    show (!Nat.testBit x.toNat j.toNat || Nat.testBit r.toNat j.toNat) = true
    cases h1 : x.toNat.testBit j.toNat <;> cases h2 : r.toNat.testBit j.toNat <;> simp_all
  · intro h
    apply BitVec.eq_of_getLsbD_eq
    intro i hi
    rw [bit i, BitVec.getLsbD_zero]
    by_cases c : i < 9
    · have q := h (i : Int) (by omega) (by omega)
      change (!Nat.testBit x.toNat i || Nat.testBit r.toNat i) = true at q
      cases h1 : x.toNat.testBit i <;> cases h2 : r.toNat.testBit i <;> simp_all
    · have z : x.toNat.testBit i = false := Nat.testBit_lt_two_pow (Nat.lt_of_lt_of_le (show x.toNat < 2 ^ 9 by omega) (Nat.pow_le_pow_right (by decide) (by omega)))
      rw [z, Bool.false_and, Bool.and_false]
theorem su_le {x r : Int} (hx : 0 ≤ x ∧ x < 512) (hr : 0 ≤ r) (h : suQ x r = true) : x ≤ r := by
  have l := (al_iff _ (by omega)).mp h
  have e : sn2 r x = x := tb_ext (sn2_b hr).1 hx.1 (fun j y1 => by
    rw [tb_sn2]
    by_cases c : j < 9
    · have := l j y1 c
      cases h1 : tb x j <;> cases h2 : tb r j <;> simp_all
    · rw [tb_lt (s := x) (n := 9) (by rw [show p2 9 = 512 from by decide]; exact hx) (by omega) (by omega), Bool.and_false])
  have := (sn2_b (t := x) hr).2
  omega
theorem sm_cut (f : Int → Int) {a n : Int} (ha : 0 ≤ a ∧ a ≤ n) (h : ∀ i, a ≤ i → i < n → f i = 0) : sm f n = sm f a := by
  have := sm_sh f ha.1 (n - a).toNat
  rw [show a + ((n - a).toNat : Int) = n by omega, sm_z (fun d => f (a + d)) (by omega) (fun d q1 q2 => h _ (by omega) (by omega)), Int.add_zero] at this
  exact this
theorem bs_cg {p q : Int → Bool} {n : Int} (h : ∀ k, 0 ≤ k → k < n → p k = q k) : bs p n = bs q n := fo_congr _ _ _ (fun i x q1 q2 => by rw [h i q1 q2])
section WENT
variable {E : (Nat → Value) × (Nat → Nat)} {lo d s l t c : Nat} {μ μ' : rM} {I Q Q' S L T C : Nat → Int → Int} {x y z v h u k w n : Int}
/-- what is told so far -/
def ieQ (S L C : Nat → Int → Int) (n h u m : Int) : Int := sm (fun x => if suQ x (rqS C true (C 0 0)) = true then sgQ x * wA S L (so (rqS C false (C 0 0)) x) n h u else 0) m
theorem ieQ_s (hm : 0 ≤ w) : ieQ S L C n h u (w + 1) = ieQ S L C n h u w + (if suQ w (rqS C true (C 0 0)) = true then sgQ w * wA S L (so (rqS C false (C 0 0)) w) n h u else 0) := sm_s _ hm
theorem ieQ_e (hV : SV S) (hC : CV C) : ieQ S L C n h u (rqS C true (C 0 0) + 1) = eaQ S L C n h u := by
  rw [← ea_IE hV hC]
  have b1 := rqS_b (f := true) hC (n := C 0 0) (by have := hC.1; omega)
  symm
  refine sm_cut _ (by omega) (fun i q1 q2 => ?_)
  rw [if_neg]
  intro q
  have := su_le (by omega) b1.1 q
  omega
theorem SWP_t {μ'' : rM} {Q'' : Nat → Int → Int} (h : SWP lo μ μ' Q Q) (k : SWP lo μ' μ'' Q' Q'') : SWP lo μ μ'' Q Q := ⟨⟨k.1.1.trans h.1.1, k.1.2.1.trans h.1.2.1, k.1.2.2.1.trans h.1.2.2.1, fun a f z => (k.1.2.2.2 a f z).trans (h.1.2.2.2 a f z)⟩, k.2.1, fun _ _ _ => rfl⟩
theorem fw_sp (hd : 6 ≤ d) (hC0 : CO μ lo) (hN : NC μ I (lo + 84) s l t S L T) (hrd : ∀ k u, 0 ≤ k → k < S 0 3 → 0 ≤ u → u < 36 → rdS S (I (lo + 84 + 14)) (I (lo + 84 + 15)) k u = rdN S (siS S) tST k u) (hs : s + 13 ≤ lo + 102 ∧ l + 2 ≤ lo + 102 ∧ t + 5 ≤ lo + 102) (hc : AtC μ I c C) (hcl : c + 2 ≤ lo + 102) (hCV : CV C) (hn : 0 ≤ n ∧ n ≤ 7) : ∃ μ2 Q2 g, cl E lo d 114 [.ref ((lo + 122)), .ref ((lo + 84)), .ref c, .int (J (n))] (mj (ml μ Q) I) = some (none, mj (ml μ2 Q2) (sA I (lo + 122 + 18) g)) ∧ SWP lo (wr μ (lo + 122) 3 (some s)) μ2 Q Q ∧ ∀ h u, 0 ≤ h → h < S 0 0 → 0 ≤ u → u < 36 → Q2 (lo + 122 + 21) (h * 36 + u) = eaQ S L C n h u := by
  obtain ⟨d, rfl⟩ : ∃ e, d = e + 1 := ⟨d - 1, by omega⟩
  have hC1 : CO (wr μ (lo + 122) 3 (some s)) lo := (FQ_wr (I := I)).C hC0
  have hN1 : NC (wr μ (lo + 122) 3 (some s)) I (lo + 84) s l t S L T := NC_m hN rfl (fun a q f => by rw [rr_wr, if_neg (by omega)])
  have hc1 : AtC (wr μ (lo + 122) 3 (some s)) I c C := ⟨⟨hc.1.1, fun q hq => ⟨by rw [rr_wr, if_neg (by omega)]; exact (hc.1.2 q hq).1, (hc.1.2 q hq).2⟩⟩, hc.2⟩
  have hs3 : rr (wr μ (lo + 122) 3 (some s)) (lo + 122) 3 = some s := by rw [rr_wr, if_pos ⟨rfl, rfl⟩]
  have hNi : ShN (ml μ Q) (lo + 84) := hN.1
  have h0 : rr (ml μ Q) (lo + 84) 0 = some s := hN.2.1
  have hW0 : ShW (ml μ Q) (lo + 122) := hC0.W122
  have hlW : lo ≤ lo + 122 := by omega
  have wrm : wr (ml μ Q) (lo + 122) 3 (some s) = ml (wr μ (lo + 122) 3 (some s)) Q := rfl
  have s1 : cl E lo (d + 1) 114 [.ref (lo + 122), .ref (lo + 84), .ref c, .int (J n)] (mj (ml μ Q) I) = ex PG E lo d 114 11 [some (.ref ((lo + 122))), some (.ref ((lo + 84))), some (.ref c), some (.int (J (n))), some (.int (J (0))), none, none] [] (mj (ml (wr μ (lo + 122) 3 (some s)) Q) I) := by
    simp (disch := omega) only [b114_0, b114_8, e114, gO_W hW0, gR_W2 hW0, gR_W4 hW0, gR_W5 hW0, gR_W6 hW0, gR_W7 hW0, gR_W10 hW0, gR_W11 hW0, gR_W12 hW0, al_W1 hW0, al_W15 hW0, al_W16 hW0, al_W17 hW0, al_W18 hW0, al_W21 hW0, al_W22 hW0, al_W23 hW0, rd_W1 hW0, rd_W15 hW0, rd_W16 hW0, rd_W17 hW0, rd_W18 hW0, rd_W21 hW0, rd_W22 hW0, rd_W23 hW0, gP_W hW0 hlW, wr_W1 hW0 hlW, wr_W15 hW0 hlW, wr_W16 hW0 hlW, wr_W17 hW0 hlW, wr_W18 hW0 hlW, wr_W21 hW0 hlW, wr_W22 hW0 hlW, wr_W23 hW0 hlW, gO_N hNi, gR_N3 hNi, gR_N4 hNi, gR_N5 hNi, gR_N6 hNi, al_N14 hNi, al_N15 hNi, al_N16 hNi, al_N17 hNi, rd_N14 hNi, rd_N15 hNi, rd_N16 hNi, rd_N17 hNi, gR_k h0, wr_j, wrm, Jl0, Jl1, Jl2, Jl3, Jl4, Jl5, Jl6, Jl7, Jl8, Jl9, Jl10, Jl11, Jl12, Jl13, Jl14, Jl15, Jl16, Jl17, Jl18, Jl19, Jl20, Jl22, Jl24, Jl28, Jl30, Jl31, Jl32, Jl35, Jl36, Jl37, Jl38, Jl39, Jl40, Jl48, Jl57, Jl59, Jl60, Jl61, Jl63, Jl64, Jl68, Jl69, Jl96, Jl97, Jl98, Jl99, Jl100, Jl122, Jl149, Jl150, Jl165, Jl255, Jl511, Jl512, Jl600, Jl610, Jl940, Jl968, Jl999, Jl1134, Jl1152, Jl2048, Jl4608, Jl9999, Jl99999, Jl100000, Jl147456, Jl12345, Jl1103515245, Jl100000000, Jlm1, Jlm2, J_add, J_sub, J_mul, J_lt, J_le, J_eq, J_ite, J_cl, ri_j, wi_j, b2i_z, b2i_o, b2i_zo, Int.cast_ofNat_Int, Int.natCast_zero, Int.natCast_one, if_true, if_false, ite_self, Int.le_refl, J_bit, J_or, J_neg, J_oN, Int.reduceEq, Int.reduceLT, Int.reduceLE, Int.reduceNeg, Int.reduceAdd, Int.reduceSub, Int.reduceMul, Int.reduceToNat, J_shl, J_shr, V_ite, true_or, or_true, nz_j, J_div, J_rem, Option.bind_some, Option.toList_some, Option.toList_none, List.cons_append, List.nil_append, Jl21, Jl23, Jl25, Jl74, Jl83, Jl288, Jl324, Jl1800, Jlm8]
  rw [s1]
  clear s1 wrm hW0 hNi h0
  obtain ⟨μ1, eμ⟩ : ∃ μ1, μ1 = wr μ (lo + 122) 3 (some s) := ⟨_, rfl⟩
  rw [← eμ] at hC1 hN1 hs3 hc1 ⊢
  have hV := hN1.2.2.2.2.2.1
  have hS1 := hN1.2.2.2.2.1
  have vv := hV.1
  have hWq : ∀ X, ShW (ml μ1 X) (lo + 122) := fun _ => hC1.W122
  have p9' := p2_le (k := S 0 3) (m := 9) (by omega)
  rw [show p2 9 = 512 from by decide] at p9'
  obtain ⟨⟨g1, q5⟩, e1, a1⟩ := loop (fun h (st : (Int → Int) × Option Value) => ex PG E lo d 114 11 [some (.ref ((lo + 122))), some (.ref ((lo + 84))), some (.ref c), some (.int (J (n))), some (.int (J (h))), st.2, none] [] (mj (ml μ1 Q) (sA I (lo + 122 + 18) st.1))) (fun h st => ∀ t w, 0 ≤ t → t < h → 0 ≤ w → w < 36 → st.1 (t * 36 + w) = abQ S L t w) (a := 0) (n := 8) (fun h st f1 f2 hP => by
    obtain ⟨g, q5⟩ := st
    dsimp only at hP ⊢
    obtain ⟨g2, e2, a2⟩ := loop (fun u (g : Int → Int) => ex PG E lo d 114 21 [some (.ref ((lo + 122))), some (.ref ((lo + 84))), some (.ref c), some (.int (J (n))), some (.int (J (h))), some (.int (J (u))), none] [] (mj (ml μ1 Q) (sA I (lo + 122 + 18) g))) (fun u g => (∀ t w, 0 ≤ t → t < h → 0 ≤ w → w < 36 → g (t * 36 + w) = abQ S L t w) ∧ ∀ w, 0 ≤ w → w < u → g (h * 36 + w) = abQ S L h w) (a := 0) (n := 36) (fun u g z1 z2 hP => by
      have hN3 : NC (ml μ1 Q) (sA I (lo + 122 + 18) g) (lo + 84) s l t S L T := NC_fr (show NC (ml μ1 Q) I (lo + 84) s l t S L T from hN1) (fun a _ _ => sA_n (by omega)) (fun a _ _ => sA_n (by omega)) (fun a _ _ => sA_n (by omega)) (sA_n (by omega)) (sA_n (by omega))
      have ham := am_sp (E := E) (lo := lo) (d := d) (u := u) (by omega) hN3 (by omega) ⟨z1, z2⟩
      have hsl := sl_sp (E := E) (lo := lo) (d := d) (h := h) (by omega) hN3 (by omega) (by omega)
      have eam : bs (fun k => decide (L 0 0 < rdS S (sA I (lo + 122 + 18) g (lo + 84 + 14)) (sA I (lo + 122 + 18) g (lo + 84 + 15)) k u)) (S 0 3) = bs (fun k => decide (L 0 0 < rdN S (siS S) tST k u)) (S 0 3) := bs_cg (fun k q1 q2 => by
        rw [sA_n (by omega), sA_n (by omega), hrd k u q1 q2 z1 z2])
      rw [eam] at ham
      have b1 := bs_b (fun k => decide (L 0 0 < rdN S (siS S) tST k u)) (n := S 0 3) (by omega)
      have b2 := bs_b (fun k => decide (S 3 k = h)) (n := S 0 3) (by omega)
      have eab : sn2 (bs (fun k => decide (L 0 0 < rdN S (siS S) tST k u)) (S 0 3)) (bs (fun k => decide (S 3 k = h)) (S 0 3)) = abQ S L h u := bs_sn2 _ _ (by omega)
      obtain ⟨A, eA⟩ : ∃ A, A = bs (fun k => decide (L 0 0 < rdN S (siS S) tST k u)) (S 0 3) := ⟨_, rfl⟩
      obtain ⟨B, eB⟩ : ∃ B, B = bs (fun k => decide (S 3 k = h)) (S 0 3) := ⟨_, rfl⟩
      rw [← eA] at ham b1 eab
      rw [← eB] at hsl b2 eab
      have hW := hWq Q
      have hNi3 := hN3.1
      refine ⟨u1 g (h * 36 + u) (abQ S L h u), ?_, fun t w y1 y2 y3 y4 => ?_, fun w y1 y2 => ?_⟩
      · rw [b114_21]
        simp (disch := omega) only [b114_28, b114_46, b114_52, b114_54, gO_W hW, gR_W2 hW, gR_W4 hW, gR_W5 hW, gR_W6 hW, gR_W7 hW, gR_W10 hW, gR_W11 hW, gR_W12 hW, al_W1 hW, al_W15 hW, al_W16 hW, al_W17 hW, al_W18 hW, al_W21 hW, al_W22 hW, al_W23 hW, rd_W1 hW, rd_W15 hW, rd_W16 hW, rd_W17 hW, rd_W18 hW, rd_W21 hW, rd_W22 hW, rd_W23 hW, gP_W hW hlW, wr_W1 hW hlW, wr_W15 hW hlW, wr_W16 hW hlW, wr_W17 hW hlW, wr_W18 hW hlW, wr_W21 hW hlW, wr_W22 hW hlW, wr_W23 hW hlW, gO_N hNi3, gR_N3 hNi3, gR_N4 hNi3, gR_N5 hNi3, gR_N6 hNi3, al_N14 hNi3, al_N15 hNi3, al_N16 hNi3, al_N17 hNi3, rd_N14 hNi3, rd_N15 hNi3, rd_N16 hNi3, rd_N17 hNi3, ham, hsl, J_and, eab, u3_sA, sA_s, sA_sA, Jl0, Jl1, Jl2, Jl3, Jl4, Jl5, Jl6, Jl7, Jl8, Jl9, Jl10, Jl11, Jl12, Jl13, Jl14, Jl15, Jl16, Jl17, Jl18, Jl19, Jl20, Jl22, Jl24, Jl28, Jl30, Jl31, Jl32, Jl35, Jl36, Jl37, Jl38, Jl39, Jl40, Jl48, Jl57, Jl59, Jl60, Jl61, Jl63, Jl64, Jl68, Jl69, Jl96, Jl97, Jl98, Jl99, Jl100, Jl122, Jl149, Jl150, Jl165, Jl255, Jl511, Jl512, Jl600, Jl610, Jl940, Jl968, Jl999, Jl1134, Jl1152, Jl2048, Jl4608, Jl9999, Jl99999, Jl100000, Jl147456, Jl12345, Jl1103515245, Jl100000000, Jlm1, Jlm2, J_add, J_sub, J_mul, J_lt, J_le, J_eq, J_ite, J_cl, ri_j, wi_j, b2i_z, b2i_o, b2i_zo, Int.cast_ofNat_Int, Int.natCast_zero, Int.natCast_one, if_true, if_false, ite_self, Int.le_refl, J_bit, J_or, J_neg, J_oN, Int.reduceEq, Int.reduceLT, Int.reduceLE, Int.reduceNeg, Int.reduceAdd, Int.reduceSub, Int.reduceMul, Int.reduceToNat, J_shl, J_shr, V_ite, true_or, or_true, nz_j, J_div, J_rem, Option.bind_some, Option.toList_some, Option.toList_none, List.cons_append, List.nil_append, Jl21, Jl23, Jl25, Jl74, Jl83, Jl288, Jl324, Jl1800, Jlm8]
        repeat (first | rw [if_neg (by omega)] | rw [if_pos (by omega)])
      · rw [u1_n (by omega)]
        exact hP.1 t w y1 y2 y3 y4
      · by_cases cw : w = u
        · rw [cw, u1_s]
        · rw [u1_n (by omega)]
          exact hP.2 w y1 (by omega)) (by omega) g ⟨hP, fun w y1 y2 => by omega⟩
    refine ⟨(g2, some (.int (J 36))), ?_, fun t w y1 y2 y3 y4 => ?_⟩
    · dsimp only
      rw [b114_11]
      simp (disch := omega) only [b114_18, Jl0, Jl1, Jl2, Jl3, Jl4, Jl5, Jl6, Jl7, Jl8, Jl9, Jl10, Jl11, Jl12, Jl13, Jl14, Jl15, Jl16, Jl17, Jl18, Jl19, Jl20, Jl22, Jl24, Jl28, Jl30, Jl31, Jl32, Jl35, Jl36, Jl37, Jl38, Jl39, Jl40, Jl48, Jl57, Jl59, Jl60, Jl61, Jl63, Jl64, Jl68, Jl69, Jl96, Jl97, Jl98, Jl99, Jl100, Jl122, Jl149, Jl150, Jl165, Jl255, Jl511, Jl512, Jl600, Jl610, Jl940, Jl968, Jl999, Jl1134, Jl1152, Jl2048, Jl4608, Jl9999, Jl99999, Jl100000, Jl147456, Jl12345, Jl1103515245, Jl100000000, Jlm1, Jlm2, J_add, J_sub, J_mul, J_lt, J_le, J_eq, J_ite, J_cl, ri_j, wi_j, b2i_z, b2i_o, b2i_zo, Int.cast_ofNat_Int, Int.natCast_zero, Int.natCast_one, if_true, if_false, ite_self, Int.le_refl, J_bit, J_or, J_neg, J_oN, Int.reduceEq, Int.reduceLT, Int.reduceLE, Int.reduceNeg, Int.reduceAdd, Int.reduceSub, Int.reduceMul, Int.reduceToNat, J_shl, J_shr, V_ite, true_or, or_true, nz_j, J_div, J_rem, Option.bind_some, Option.toList_some, Option.toList_none, List.cons_append, List.nil_append, Jl21, Jl23, Jl25, Jl74, Jl83, Jl288, Jl324, Jl1800, Jlm8]
      rw [if_neg (by omega), e2, b114_21]
      simp (disch := omega) only [b114_60, Jl0, Jl1, Jl2, Jl3, Jl4, Jl5, Jl6, Jl7, Jl8, Jl9, Jl10, Jl11, Jl12, Jl13, Jl14, Jl15, Jl16, Jl17, Jl18, Jl19, Jl20, Jl22, Jl24, Jl28, Jl30, Jl31, Jl32, Jl35, Jl36, Jl37, Jl38, Jl39, Jl40, Jl48, Jl57, Jl59, Jl60, Jl61, Jl63, Jl64, Jl68, Jl69, Jl96, Jl97, Jl98, Jl99, Jl100, Jl122, Jl149, Jl150, Jl165, Jl255, Jl511, Jl512, Jl600, Jl610, Jl940, Jl968, Jl999, Jl1134, Jl1152, Jl2048, Jl4608, Jl9999, Jl99999, Jl100000, Jl147456, Jl12345, Jl1103515245, Jl100000000, Jlm1, Jlm2, J_add, J_sub, J_mul, J_lt, J_le, J_eq, J_ite, J_cl, ri_j, wi_j, b2i_z, b2i_o, b2i_zo, Int.cast_ofNat_Int, Int.natCast_zero, Int.natCast_one, if_true, if_false, ite_self, Int.le_refl, J_bit, J_or, J_neg, J_oN, Int.reduceEq, Int.reduceLT, Int.reduceLE, Int.reduceNeg, Int.reduceAdd, Int.reduceSub, Int.reduceMul, Int.reduceToNat, J_shl, J_shr, V_ite, true_or, or_true, nz_j, J_div, J_rem, Option.bind_some, Option.toList_some, Option.toList_none, List.cons_append, List.nil_append, Jl21, Jl23, Jl25, Jl74, Jl83, Jl288, Jl324, Jl1800, Jlm8]
    · dsimp only
      by_cases ct : t = h
      · rw [ct]; exact a2.2 w y3 y4
      · exact a2.1 t w y1 (by omega) y3 y4) (by omega) (I (lo + 122 + 18), none) (fun t w y1 y2 => by omega)
  dsimp only at e1 a1
  rw [sA_id] at e1
  rw [e1, b114_11]
  have hS2 : AtS μ1 (sA I (lo + 122 + 18) g1) s S := hS1.fr (fun a _ _ => sA_n (by omega))
  have hcc : AtC μ1 (sA I (lo + 122 + 18) g1) c C := hc1.fr (fun a _ _ => sA_n (by omega))
  obtain ⟨I1, eI1⟩ : ∃ I1, I1 = sA I (lo + 122 + 18) g1 := ⟨_, rfl⟩
  have i18 : I1 (lo + 122 + 18) = g1 := by rw [eI1, sA_s]
  rw [← eI1] at hS2 hcc ⊢
  have hR : WR μ1 I1 lo s S L := ⟨hC1, hs3, hS2, fun t w y1 y2 y3 y4 => by rw [i18]; exact a1 t w y1 y2 y3 y4⟩
  have k21 : rk μ1 (lo + 122 + 21) = some (.inr (3, 288)) := (hC1.W122.2 (10, 21, 3, 288) (by decide)).2
  have hfl := flL_sp (E := E) (lo := lo) (d := d) (Q := Q) (I := I1) (v := 0) (by omega) k21 (by omega) (by omega)
  obtain ⟨Q1, eQ1⟩ : ∃ Q1, Q1 = sA Q (lo + 122 + 21) (flr (Q (lo + 122 + 21)) 0 ((288 : Nat) : Int) 0) := ⟨_, rfl⟩
  rw [← eQ1] at hfl
  have hb1 := cb2_sp (E := E) (lo := lo) (d := d) (μ := ml μ1 Q1) (f := true) (by omega) hcc hCV
  have hb0 := cb2_sp (E := E) (lo := lo) (d := d) (μ := ml μ1 Q1) (f := false) (by omega) hcc hCV
  rw [b2i_t] at hb1
  rw [b2i_f] at hb0
  have r1 := rqS_b (f := true) hCV (n := C 0 0) (by have := hCV.1; omega)
  have r0 := rqS_b (f := false) hCV (n := C 0 0) (by have := hCV.1; omega)
  obtain ⟨⟨μ3, Q3⟩, e3, sw3, v3⟩ := loop (fun m (st : rM × (Nat → Int → Int)) => ex PG E lo d 114 91 [some (.ref ((lo + 122))), some (.ref ((lo + 84))), some (.ref c), some (.int (J (n))), some (.int (J ((rqS C true (C 0 0))))), some (.int (J ((rqS C false (C 0 0))))), some (.int (J (m)))] [] (mj (ml st.1 st.2) I1)) (fun m st => SWP lo μ1 st.1 Q Q ∧ ∀ h u, 0 ≤ h → h < S 0 0 → 0 ≤ u → u < 36 → st.2 (lo + 122 + 21) (h * 36 + u) = ieQ S L C n h u m) (a := 0) (n := rqS C true (C 0 0) + 1) (fun m st f1 f2 hP => by
    obtain ⟨μ4, Q4⟩ := st
    dsimp only at hP ⊢
    obtain ⟨sw, v4⟩ := hP
    have hsu := J_su (x := m) (r := rqS C true (C 0 0)) (by omega) (by omega)
    by_cases cs : suQ m (rqS C true (C 0 0)) = true
    · have hR4 := SWP_R hR (by omega) sw
      have ob := so_p2 (s := rqS C false (C 0 0)) (t := m) (k := 9) (by rw [show p2 9 = 512 from by decide]; omega) (by rw [show p2 9 = 512 from by decide]; omega)
      rw [show p2 9 = 512 from by decide] at ob
      obtain ⟨μ5, Q5, a5, e5, sw5, r5, ha5, v5⟩ := cw_sp (E := E) (lo := lo) (d := d) (Q := Q4) (n := n) (by omega) hR4 hV (by omega) hn ob
      have hbc := bc_sp (E := E) (lo := lo) (d := d) (x := m) (μ := mj (ml μ5 Q5) I1) (by omega) (by omega)
      have bb := bc_b m
      have hC5 : CO μ5 lo := (SWP_R hR4 (by omega) sw5).1
      have k5 : rk μ5 a5 = some (.inr (3, 288)) := by
        rcases ha5 with q | q <;> rw [q]
        · exact hC5.1 (141, 1, 3, 288) (by decide +kernel)
        · exact hC5.1 (142, 1, 3, 288) (by decide +kernel)
      have hW4 : ShW (ml μ4 Q4) (lo + 122) := hR4.1.W122
      have hW5 : ShW (ml μ5 Q5) (lo + 122) := hC5.W122
      have had := fun x (hx : -1 ≤ x ∧ x ≤ 1) => ad_sp (E := E) (lo := lo) (d := d) (Q := Q5) (I := I1) (x := x) (by omega) hC5 r5 k5 (by omega) hx
      have q21 : Q5 (lo + 122 + 21) = Q4 (lo + 122 + 21) := sw5.2.2 _ (by omega) (by omega)
      refine ⟨(μ5, sA Q5 (lo + 122 + 21) (fun j => if 0 ≤ j ∧ j < 288 then Q5 (lo + 122 + 21) j + sgQ m * Q5 a5 j else Q5 (lo + 122 + 21) j)), ?_, SWP_t sw sw5, fun h u y1 y2 y3 y4 => ?_⟩
      · dsimp only
        rw [b114_91]
        by_cases cb : bc m % 2 = 0
        · have esg : sgQ m = 1 := by unfold sgQ; rw [if_pos cb]
          have had1 := had 1 (by omega)
          rw [esg]
          simp (disch := omega) only [b114_98, b114_108, b114_118, b114_124, b114_129, b114_134, b114_137, gO_W hW4, gR_W2 hW4, gR_W4 hW4, gR_W5 hW4, gR_W6 hW4, gR_W7 hW4, gR_W10 hW4, gR_W11 hW4, gR_W12 hW4, al_W1 hW4, al_W15 hW4, al_W16 hW4, al_W17 hW4, al_W18 hW4, al_W21 hW4, al_W22 hW4, al_W23 hW4, rd_W1 hW4, rd_W15 hW4, rd_W16 hW4, rd_W17 hW4, rd_W18 hW4, rd_W21 hW4, rd_W22 hW4, rd_W23 hW4, gO_W hW5, gR_W2 hW5, gR_W4 hW5, gR_W5 hW5, gR_W6 hW5, gR_W7 hW5, gR_W10 hW5, gR_W11 hW5, gR_W12 hW5, al_W1 hW5, al_W15 hW5, al_W16 hW5, al_W17 hW5, al_W18 hW5, al_W21 hW5, al_W22 hW5, al_W23 hW5, rd_W1 hW5, rd_W15 hW5, rd_W16 hW5, rd_W17 hW5, rd_W18 hW5, rd_W21 hW5, rd_W22 hW5, rd_W23 hW5, hsu, cs, e5, hbc, cb, had1, Jl0, Jl1, Jl2, Jl3, Jl4, Jl5, Jl6, Jl7, Jl8, Jl9, Jl10, Jl11, Jl12, Jl13, Jl14, Jl15, Jl16, Jl17, Jl18, Jl19, Jl20, Jl22, Jl24, Jl28, Jl30, Jl31, Jl32, Jl35, Jl36, Jl37, Jl38, Jl39, Jl40, Jl48, Jl57, Jl59, Jl60, Jl61, Jl63, Jl64, Jl68, Jl69, Jl96, Jl97, Jl98, Jl99, Jl100, Jl122, Jl149, Jl150, Jl165, Jl255, Jl511, Jl512, Jl600, Jl610, Jl940, Jl968, Jl999, Jl1134, Jl1152, Jl2048, Jl4608, Jl9999, Jl99999, Jl100000, Jl147456, Jl12345, Jl1103515245, Jl100000000, Jlm1, Jlm2, J_add, J_sub, J_mul, J_lt, J_le, J_eq, J_ite, J_cl, ri_j, wi_j, b2i_z, b2i_o, b2i_zo, Int.cast_ofNat_Int, Int.natCast_zero, Int.natCast_one, if_true, if_false, ite_self, Int.le_refl, J_bit, J_or, J_neg, J_oN, Int.reduceEq, Int.reduceLT, Int.reduceLE, Int.reduceNeg, Int.reduceAdd, Int.reduceSub, Int.reduceMul, Int.reduceToNat, J_shl, J_shr, V_ite, true_or, or_true, nz_j, J_div, J_rem, Option.bind_some, Option.toList_some, Option.toList_none, List.cons_append, List.nil_append, Jl21, Jl23, Jl25, Jl74, Jl83, Jl288, Jl324, Jl1800, Jlm8]
          repeat (first | rw [if_neg (by omega)] | rw [if_pos (by omega)])
        · have esg : sgQ m = -1 := by unfold sgQ; rw [if_neg cb]
          have had1 := had (-1) (by omega)
          rw [esg]
          simp (disch := omega) only [b114_98, b114_108, b114_118, b114_124, b114_133, b114_134, b114_137, gO_W hW4, gR_W2 hW4, gR_W4 hW4, gR_W5 hW4, gR_W6 hW4, gR_W7 hW4, gR_W10 hW4, gR_W11 hW4, gR_W12 hW4, al_W1 hW4, al_W15 hW4, al_W16 hW4, al_W17 hW4, al_W18 hW4, al_W21 hW4, al_W22 hW4, al_W23 hW4, rd_W1 hW4, rd_W15 hW4, rd_W16 hW4, rd_W17 hW4, rd_W18 hW4, rd_W21 hW4, rd_W22 hW4, rd_W23 hW4, gO_W hW5, gR_W2 hW5, gR_W4 hW5, gR_W5 hW5, gR_W6 hW5, gR_W7 hW5, gR_W10 hW5, gR_W11 hW5, gR_W12 hW5, al_W1 hW5, al_W15 hW5, al_W16 hW5, al_W17 hW5, al_W18 hW5, al_W21 hW5, al_W22 hW5, al_W23 hW5, rd_W1 hW5, rd_W15 hW5, rd_W16 hW5, rd_W17 hW5, rd_W18 hW5, rd_W21 hW5, rd_W22 hW5, rd_W23 hW5, hsu, cs, e5, hbc, cb, had1, Jl0, Jl1, Jl2, Jl3, Jl4, Jl5, Jl6, Jl7, Jl8, Jl9, Jl10, Jl11, Jl12, Jl13, Jl14, Jl15, Jl16, Jl17, Jl18, Jl19, Jl20, Jl22, Jl24, Jl28, Jl30, Jl31, Jl32, Jl35, Jl36, Jl37, Jl38, Jl39, Jl40, Jl48, Jl57, Jl59, Jl60, Jl61, Jl63, Jl64, Jl68, Jl69, Jl96, Jl97, Jl98, Jl99, Jl100, Jl122, Jl149, Jl150, Jl165, Jl255, Jl511, Jl512, Jl600, Jl610, Jl940, Jl968, Jl999, Jl1134, Jl1152, Jl2048, Jl4608, Jl9999, Jl99999, Jl100000, Jl147456, Jl12345, Jl1103515245, Jl100000000, Jlm1, Jlm2, J_add, J_sub, J_mul, J_lt, J_le, J_eq, J_ite, J_cl, ri_j, wi_j, b2i_z, b2i_o, b2i_zo, Int.cast_ofNat_Int, Int.natCast_zero, Int.natCast_one, if_true, if_false, ite_self, Int.le_refl, J_bit, J_or, J_neg, J_oN, Int.reduceEq, Int.reduceLT, Int.reduceLE, Int.reduceNeg, Int.reduceAdd, Int.reduceSub, Int.reduceMul, Int.reduceToNat, J_shl, J_shr, V_ite, true_or, or_true, nz_j, J_div, J_rem, Option.bind_some, Option.toList_some, Option.toList_none, List.cons_append, List.nil_append, Jl21, Jl23, Jl25, Jl74, Jl83, Jl288, Jl324, Jl1800, Jlm8]
          repeat (first | rw [if_neg (by omega)] | rw [if_pos (by omega)])
      · dsimp only
        rw [sA_s, ieQ_s f1, if_pos cs, if_pos (by omega), q21, v4 h u y1 y2 y3 y4, v5 h u y1 y2 y3 y4]
    · refine ⟨(μ4, Q4), ?_, sw, fun h u y1 y2 y3 y4 => ?_⟩
      · dsimp only
        rw [b114_91]
        simp (disch := omega) only [b114_98, b114_137, hsu, cs, Bool.false_eq_true, Jl0, Jl1, Jl2, Jl3, Jl4, Jl5, Jl6, Jl7, Jl8, Jl9, Jl10, Jl11, Jl12, Jl13, Jl14, Jl15, Jl16, Jl17, Jl18, Jl19, Jl20, Jl22, Jl24, Jl28, Jl30, Jl31, Jl32, Jl35, Jl36, Jl37, Jl38, Jl39, Jl40, Jl48, Jl57, Jl59, Jl60, Jl61, Jl63, Jl64, Jl68, Jl69, Jl96, Jl97, Jl98, Jl99, Jl100, Jl122, Jl149, Jl150, Jl165, Jl255, Jl511, Jl512, Jl600, Jl610, Jl940, Jl968, Jl999, Jl1134, Jl1152, Jl2048, Jl4608, Jl9999, Jl99999, Jl100000, Jl147456, Jl12345, Jl1103515245, Jl100000000, Jlm1, Jlm2, J_add, J_sub, J_mul, J_lt, J_le, J_eq, J_ite, J_cl, ri_j, wi_j, b2i_z, b2i_o, b2i_zo, Int.cast_ofNat_Int, Int.natCast_zero, Int.natCast_one, if_true, if_false, ite_self, Int.le_refl, J_bit, J_or, J_neg, J_oN, Int.reduceEq, Int.reduceLT, Int.reduceLE, Int.reduceNeg, Int.reduceAdd, Int.reduceSub, Int.reduceMul, Int.reduceToNat, J_shl, J_shr, V_ite, true_or, or_true, nz_j, J_div, J_rem, Option.bind_some, Option.toList_some, Option.toList_none, List.cons_append, List.nil_append, Jl21, Jl23, Jl25, Jl74, Jl83, Jl288, Jl324, Jl1800, Jlm8]
        repeat (first | rw [if_neg (by omega)] | rw [if_pos (by omega)])
      · dsimp only
        rw [ieQ_s f1, if_neg cs, Int.add_zero]
        exact v4 h u y1 y2 y3 y4) (by omega) (μ1, Q1) ⟨⟨⟨rfl, rfl, rfl, fun _ _ _ => rfl⟩, hC1.2.2, fun _ _ _ => rfl⟩, fun h u y1 y2 y3 y4 => by
      dsimp only
      rw [eQ1, sA_s]
      unfold flr
      rw [if_pos (by omega)]
      rfl⟩
  dsimp only at e3 sw3 v3
  refine ⟨μ3, Q3, g1, ?_, sw3, fun h u y1 y2 y3 y4 => by rw [v3 h u y1 y2 y3 y4, ieQ_e hV hCV]⟩
  have hW := hWq Q
  have hccs : ShC (ml μ1 Q1) c := hcc.1
  rw [← eI1]
  simp (disch := omega) only [b114_66, b114_74, b114_79, b114_86, gO_W hW, gR_W2 hW, gR_W4 hW, gR_W5 hW, gR_W6 hW, gR_W7 hW, gR_W10 hW, gR_W11 hW, gR_W12 hW, al_W1 hW, al_W15 hW, al_W16 hW, al_W17 hW, al_W18 hW, al_W21 hW, al_W22 hW, al_W23 hW, rd_W1 hW, rd_W15 hW, rd_W16 hW, rd_W17 hW, rd_W18 hW, rd_W21 hW, rd_W22 hW, rd_W23 hW, gO_C hccs, gR_C1 hccs, al_C1 hccs, rd_C1 hccs, Kl0, hfl, hb1, hb0, Jl0, Jl1, Jl2, Jl3, Jl4, Jl5, Jl6, Jl7, Jl8, Jl9, Jl10, Jl11, Jl12, Jl13, Jl14, Jl15, Jl16, Jl17, Jl18, Jl19, Jl20, Jl22, Jl24, Jl28, Jl30, Jl31, Jl32, Jl35, Jl36, Jl37, Jl38, Jl39, Jl40, Jl48, Jl57, Jl59, Jl60, Jl61, Jl63, Jl64, Jl68, Jl69, Jl96, Jl97, Jl98, Jl99, Jl100, Jl122, Jl149, Jl150, Jl165, Jl255, Jl511, Jl512, Jl600, Jl610, Jl940, Jl968, Jl999, Jl1134, Jl1152, Jl2048, Jl4608, Jl9999, Jl99999, Jl100000, Jl147456, Jl12345, Jl1103515245, Jl100000000, Jlm1, Jlm2, J_add, J_sub, J_mul, J_lt, J_le, J_eq, J_ite, J_cl, ri_j, wi_j, b2i_z, b2i_o, b2i_zo, Int.cast_ofNat_Int, Int.natCast_zero, Int.natCast_one, if_true, if_false, ite_self, Int.le_refl, J_bit, J_or, J_neg, J_oN, Int.reduceEq, Int.reduceLT, Int.reduceLE, Int.reduceNeg, Int.reduceAdd, Int.reduceSub, Int.reduceMul, Int.reduceToNat, J_shl, J_shr, V_ite, true_or, or_true, nz_j, J_div, J_rem, Option.bind_some, Option.toList_some, Option.toList_none, List.cons_append, List.nil_append, Jl21, Jl23, Jl25, Jl74, Jl83, Jl288, Jl324, Jl1800, Jlm8]
  refine e3.trans ?_
  rw [b114_91]
  simp (disch := omega) only [b114_143, Jl0, Jl1, Jl2, Jl3, Jl4, Jl5, Jl6, Jl7, Jl8, Jl9, Jl10, Jl11, Jl12, Jl13, Jl14, Jl15, Jl16, Jl17, Jl18, Jl19, Jl20, Jl22, Jl24, Jl28, Jl30, Jl31, Jl32, Jl35, Jl36, Jl37, Jl38, Jl39, Jl40, Jl48, Jl57, Jl59, Jl60, Jl61, Jl63, Jl64, Jl68, Jl69, Jl96, Jl97, Jl98, Jl99, Jl100, Jl122, Jl149, Jl150, Jl165, Jl255, Jl511, Jl512, Jl600, Jl610, Jl940, Jl968, Jl999, Jl1134, Jl1152, Jl2048, Jl4608, Jl9999, Jl99999, Jl100000, Jl147456, Jl12345, Jl1103515245, Jl100000000, Jlm1, Jlm2, J_add, J_sub, J_mul, J_lt, J_le, J_eq, J_ite, J_cl, ri_j, wi_j, b2i_z, b2i_o, b2i_zo, Int.cast_ofNat_Int, Int.natCast_zero, Int.natCast_one, if_true, if_false, ite_self, Int.le_refl, J_bit, J_or, J_neg, J_oN, Int.reduceEq, Int.reduceLT, Int.reduceLE, Int.reduceNeg, Int.reduceAdd, Int.reduceSub, Int.reduceMul, Int.reduceToNat, J_shl, J_shr, V_ite, true_or, or_true, nz_j, J_div, J_rem, Option.bind_some, Option.toList_some, Option.toList_none, List.cons_append, List.nil_append, Jl21, Jl23, Jl25, Jl74, Jl83, Jl288, Jl324, Jl1800, Jlm8]
  repeat (first | rw [if_neg (by omega)] | rw [if_pos (by omega)])
end WENT
