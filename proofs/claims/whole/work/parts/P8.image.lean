/-! THE LAW: image, again -/
theorem kdC_b : ∀ q ∈ kdC, q.1 < 172 := by decide +kernel
theorem rfC_b : ∀ q ∈ rfC, q.1 < 172 ∧ ¬ q.1 = 48 := by decide +kernel
section IMAGE
variable {E : (Nat → Value) × (Nat → Nat)} {lo b L d t k : Nat} {μ μ' : rM} {I I' : Nat → Int → Int} {i x : Int}
theorem CO_ext (h : CO μ lo) (hk : ∀ a, a < lo + 172 → rk μ' a = rk μ a) (hr : ∀ a f, a < lo + 172 → ¬ a = lo + 48 → rr μ' a f = rr μ a f) : CO μ' lo := by
  refine ⟨fun q hq => ?_, fun q hq => ?_, ?_⟩
  · have := kdC_b q hq
    rw [hk _ (by omega)]
    exact h.1 q hq
  · have := rfC_b q hq
    rw [hr _ _ (by omega) (by omega)]
    exact h.2.1 q hq
  · unfold WN
    rw [hr _ _ (by omega) (by omega), hr _ _ (by omega) (by omega)]
    exact h.2.2
theorem TS_CO (h : CO μ lo) : TS μ (lo + 1) := ⟨h.D1, ⟨h.2.1 (4, 0, 8) (by decide +kernel), h.2.1 (4, 1, 28) (by decide +kernel)⟩, ⟨h.2.1 (5, 0, 21) (by decide +kernel), h.2.1 (5, 1, 41) (by decide +kernel)⟩, ⟨h.2.1 (6, 0, 23) (by decide +kernel), h.2.1 (6, 1, 43) (by decide +kernel)⟩, ⟨h.2.1 (7, 0, 26) (by decide +kernel), h.2.1 (7, 1, 46) (by decide +kernel)⟩, ⟨h.S8, h.S28⟩, ⟨h.L21, h.L41⟩, ⟨h.R23, h.R43⟩, ⟨h.C26, h.C46⟩⟩
theorem TS_new : TS (bkl μ t 47 kDd rDd 1199) t := ⟨Sh_bkl (a := 0) (by decide +kernel) (by decide) (by decide +kernel), ⟨rr_bkl (by decide +kernel) (by decide), rr_bkl (by decide +kernel) (by decide)⟩, ⟨rr_bkl (by decide +kernel) (by decide), rr_bkl (by decide +kernel) (by decide)⟩, ⟨rr_bkl (by decide +kernel) (by decide), rr_bkl (by decide +kernel) (by decide)⟩, ⟨rr_bkl (by decide +kernel) (by decide), rr_bkl (by decide +kernel) (by decide)⟩, ⟨Sh_bkl (by decide +kernel) (by decide) (by decide +kernel), Sh_bkl (by decide +kernel) (by decide) (by decide +kernel)⟩, ⟨Sh_bkl (by decide +kernel) (by decide) (by decide +kernel), Sh_bkl (by decide +kernel) (by decide) (by decide +kernel)⟩, ⟨Sh_bkl (by decide +kernel) (by decide) (by decide +kernel), Sh_bkl (by decide +kernel) (by decide) (by decide +kernel)⟩, ⟨Sh_bkl (by decide +kernel) (by decide) (by decide +kernel), Sh_bkl (by decide +kernel) (by decide) (by decide +kernel)⟩⟩
theorem rk_lt {a z n U : Nat} {L : List rKd} {R : List (Nat × Nat × Nat)} (h : a < z) : rk (bkl μ z n L R U) a = rk μ a := if_neg (by omega)
theorem rr_lt {a f z n U : Nat} {L : List rKd} {R : List (Nat × Nat × Nat)} (h : a < z) : rr (bkl μ z n L R U) a f = rr μ a f := if_neg (by omega)
theorem b158_17n (a0 : Nat) (x1 : Int32) : ex PG E lo d 158 17 [some (.ref a0), some (.int x1)] [.null] μ = ex PG E lo d 158 20 [some (.ref a0), some (.int x1)] [] μ := x_ifnnN (pc := 17) (t := 33) mI158 rfl (by decide)
theorem b159_15n (a0 : Nat) (x1 : Int32) : ex PG E lo d 159 15 [some (.ref a0), some (.int x1)] [.null] μ = ex PG E lo d 159 18 [some (.ref a0), some (.int x1)] [] μ := x_ifnnN (pc := 15) (t := 20) mI159 rfl (by decide)
theorem gR_none {α : Type} {a f : Nat} {r : Option α} (h : rr μ a f = none) (g : Nat → Option α) : gR (rr (mj μ I) a f) g r = r := by
  rw [rr_j, h]
  rfl
theorem TRl_src {I0 : Nat → Int → Int} {a b : Nat} (h : ∀ x, b ≤ x → x < b + 47 → I0 x = I x) (c : CPT I0 I' a b) : CPT I I' a b := by
  obtain ⟨w1, w2, w3, ⟨s0, l0, r0, k0⟩, ⟨s1, l1, r1, k1⟩⟩ := c
  have w : ∀ k f, k + f < 47 → rws I0 (b + k) f = rws I (b + k) f := fun k f q => h _ (by omega) (by omega)
  rw [h b (by omega) (by omega)] at w1
  rw [h _ (by omega) (by omega)] at w2 w3
  exact ⟨w1, w2, w3, ⟨agS_c (fun f hf => w 7 f (by omega)) (fun _ _ => rfl) s0, agL_c (fun f hf => w 20 f (by omega)) (fun _ _ => rfl) l0, agR_c (fun f hf => w 22 f (by omega)) (fun _ _ => rfl) r0, agC_c (fun f hf => w 25 f (by omega)) (fun _ _ => rfl) k0⟩, ⟨agS_c (fun f hf => w 27 f (by omega)) (fun _ _ => rfl) s1, agL_c (fun f hf => w 40 f (by omega)) (fun _ _ => rfl) l1, agR_c (fun f hf => w 42 f (by omega)) (fun _ _ => rfl) r1, agC_c (fun f hf => w 45 f (by omega)) (fun _ _ => rfl) k1⟩⟩
/-- an image is made: there is an object for it, and all is copied -/
theorem c_image (hd : 8 ≤ d) (h : INV E lo b L μ I) (hx : 0 ≤ x ∧ x ≤ 2) : ∃ μ1 I1 t, cl E lo d 158 [.ref lo, .int (J (x))] (mj μ I) = some (some (.int (J 1)), mj μ1 I1) ∧ (∀ a, (a < t ∨ t + 47 ≤ a) → (a < rz μ) → I1 a = I a) ∧ CPT I I1 t (lo + 1) ∧ TS μ1 t ∧ lo + 172 ≤ t ∧ t + 47 ≤ rz μ1 ∧ (∀ a, a < rz μ → rk μ1 a = rk μ a) ∧ (∀ a f, a < rz μ → ¬ (a = lo + 48 ∧ f = x.toNat) → rr μ1 a f = rr μ a f) ∧ rr μ1 (lo + 48) x.toNat = some t ∧ ((rr μ (lo + 48) x.toNat = none ∧ t = rz μ ∧ rz μ1 = rz μ + 47 ∧ ru μ1 = ru μ + 1199) ∨ (rr μ (lo + 48) x.toNat = some t ∧ rz μ1 = rz μ ∧ ru μ1 = ru μ)) := by
  obtain ⟨d, rfl⟩ : ∃ e, d = e + 1 := ⟨d - 1, by omega⟩
  have hC := h.1
  have hT := h.2.2.2.2.1
  have h9 := hT.2.2.2.2.2.2.2.2
  have hG := h.2.2.2.2.2.1
  have hR := h.2.2.2.2.2.2
  have hk48 : rk μ (lo + 48) = some (.inr (12, 3)) := hC.1 (48, 1, 12, 3) (by decide +kernel)
  have ex3 : x.toNat < 3 := by omega
  have exx : ((x.toNat : Nat) : Int) = x := by omega
  have ec : (J x).toNatClampNeg = x.toNat := by
    have := J_cl (a := x) (by omega)
    omega
  obtain ⟨hO, f0, f1, f2, f3, f4, f5, f6, f7, f8, hD⟩ := CO.o hC
  have s0 : cl E lo (d + 1) 158 [.ref lo, .int (J x)] (mj μ I) = ex PG E lo d 158 11 [some (.ref lo), some (.int (J (x)))] [] (mj μ I) := by
    simp (disch := omega) only [b158_0, b158_4, e158, Jl0, Jl1, Jl2, Jl3, Jl4, Jl5, Jl6, Jl7, Jl8, Jl9, Jl10, Jl11, Jl12, Jl13, Jl14, Jl15, Jl16, Jl17, Jl18, Jl19, Jl20, Jl22, Jl24, Jl28, Jl30, Jl31, Jl32, Jl35, Jl36, Jl37, Jl38, Jl39, Jl40, Jl48, Jl57, Jl59, Jl60, Jl61, Jl63, Jl64, Jl68, Jl69, Jl96, Jl97, Jl98, Jl99, Jl100, Jl122, Jl149, Jl150, Jl165, Jl255, Jl511, Jl512, Jl600, Jl610, Jl940, Jl968, Jl999, Jl1134, Jl1152, Jl2048, Jl4608, Jl9999, Jl99999, Jl100000, Jl147456, Jl12345, Jl1103515245, Jl100000000, Jlm1, Jlm2, J_add, J_sub, J_mul, J_lt, J_le, J_eq, J_ite, J_cl, ri_j, wi_j, b2i_z, b2i_o, b2i_zo, Int.cast_ofNat_Int, Int.natCast_zero, Int.natCast_one, if_true, if_false, ite_self, Int.le_refl, J_bit, J_or, J_neg, J_oN, Int.reduceEq, Int.reduceLT, Int.reduceLE, Int.reduceNeg, Int.reduceAdd, Int.reduceSub, Int.reduceMul, Int.reduceToNat, J_shl, J_shr, V_ite, true_or, or_true, nz_j, J_div, J_rem, Option.bind_some, Option.toList_some, Option.toList_none, List.cons_append, List.nil_append, Jl21, Jl23, Jl25, Jl74, Jl83, Jl288, Jl324, Jl1800, Jlm8]
    repeat (first | rw [if_neg (by omega)] | rw [if_pos (by omega)])
  have hsum : ∀ j : Nat, j < 3 → 0 ≤ I (lo + 148) (j : Int) ∧ I (lo + 148) (j : Int) ≤ 1 := fun j hj => by
    rcases hG j hj with q | q <;> omega
  have u0 : 0 ≤ I (lo + 148) 0 ∧ I (lo + 148) 0 ≤ 1 := hsum 0 (by omega)
  have u1 : 0 ≤ I (lo + 148) 1 ∧ I (lo + 148) 1 ≤ 1 := hsum 1 (by omega)
  have u2 : 0 ≤ I (lo + 148) 2 ∧ I (lo + 148) 2 ≤ 1 := hsum 2 (by omega)
  have hz : lo + 172 ≤ rz μ := by
    have := hR.1
    omega
  rcases hG x.toNat ex3 with ⟨q1, q2⟩ | ⟨q1, t, q2, q3, q4, q5, q6⟩
  · -- a new one
    obtain ⟨I0, e0, k0, _⟩ := con94 (E := E) (lo := lo) (d := d) (μ := μ) (z := rz μ) (I := I) (by omega) (by omega) rfl
    obtain ⟨t, et⟩ : ∃ t, t = rz μ := ⟨_, rfl⟩
    have e0' : cl E lo d 94 [.ref (rz (mj μ I))] (nw (mj μ I) (.inl 8) 9) = some (none, mj (bkl μ (rz μ) 47 kDd rDd 1199) I0) := e0
    rw [← et] at k0
    obtain ⟨μ0, eμ0⟩ : ∃ μ0, μ0 = bkl μ t 47 kDd rDd 1199 := ⟨_, rfl⟩
    rw [← et, ← eμ0] at e0'
    have rk0 : ∀ a, a < t → rk μ0 a = rk μ a := fun a z => by rw [eμ0]; exact rk_lt z
    have rr0 : ∀ a f, a < t → rr μ0 a f = rr μ a f := fun a f z => by rw [eμ0]; exact rr_lt z
    have ts0 : TS μ0 t := by rw [eμ0]; exact TS_new
    obtain ⟨μ1, eμ1⟩ : ∃ μ1, μ1 = wr μ0 (lo + 48) x.toNat (some t) := ⟨_, rfl⟩
    have rk1 : rk μ1 = rk μ0 := by rw [eμ1]; rfl
    have rr1 : ∀ a f, ¬ (a = lo + 48 ∧ f = x.toNat) → rr μ1 a f = rr μ0 a f := fun a f z => by rw [eμ1, rr_wr, if_neg z]
    have ts1 : TS μ1 t := TS_m ts0 rk1 (fun a f z1 z2 => rr1 a f (by omega))
    have hC1 : CO μ1 lo := CO_ext hC (fun a z => by rw [rk1]; exact rk0 a (by omega)) (fun a f z1 z2 => by rw [rr1 a f (fun w => z2 w.1)]; exact rr0 a f (by omega))
    obtain ⟨I1, c1, c2, c3⟩ := tcp_sp (E := E) (lo := lo) (d := d) (μ := μ1) (I := I0) (a := t) (b := lo + 1) (by omega) ts1 (TS_CO hC1) (by omega) (by omega) (by
      rw [k0 _ (by omega), k0 _ (by omega)]
      exact h9)
    refine ⟨μ1, I1, t, ?_, fun a z1 z2 => ?_, ?_, ts1, by omega, ?_, fun a z => ?_, fun a f z1 z2 => ?_, ?_, Or.inl ⟨q2, et, ?_, ?_⟩⟩
    · have g1 : rr μ (lo + 48) (J x).toNatClampNeg = none := by rw [ec]; exact q2
      have s1 : ex PG E lo d 158 11 [some (.ref lo), some (.int (J (x)))] [] (mj μ I) = ex PG E lo d 158 20 [some (.ref lo), some (.int (J (x)))] [] (mj μ I) := by
        have rdx := fun (r : Option rRs) => rdR_k (I := I) (x := x) (r := r) hk48 (by decide) (by omega)
        simp (disch := omega) only [b158_11, gO_k hO, gR_k f0, gR_k f1, gR_k f2, gR_k f3, gR_k f4, gR_k f5, gR_k f6, gR_k f7, gR_k f8, gO_D hD, gR_D0 hD, gR_D4 hD, gR_D5 hD, gR_D6 hD, gR_D7 hD, gR_D8 hD, al_D1 hD, al_D2 hD, al_D3 hD, al_D4 hD, al_D5 hD, al_D6 hD, rd_D1 hD, rd_D2 hD, rd_D3 hD, rd_D4 hD, rd_D5 hD, rd_D6 hD, rdx, gR_none g1, b158_17n, Jl0, Jl1, Jl2, Jl3, Jl4, Jl5, Jl6, Jl7, Jl8, Jl9, Jl10, Jl11, Jl12, Jl13, Jl14, Jl15, Jl16, Jl17, Jl18, Jl19, Jl20, Jl22, Jl24, Jl28, Jl30, Jl31, Jl32, Jl35, Jl36, Jl37, Jl38, Jl39, Jl40, Jl48, Jl57, Jl59, Jl60, Jl61, Jl63, Jl64, Jl68, Jl69, Jl96, Jl97, Jl98, Jl99, Jl100, Jl122, Jl149, Jl150, Jl165, Jl255, Jl511, Jl512, Jl600, Jl610, Jl940, Jl968, Jl999, Jl1134, Jl1152, Jl2048, Jl4608, Jl9999, Jl99999, Jl100000, Jl147456, Jl12345, Jl1103515245, Jl100000000, Jlm1, Jlm2, J_add, J_sub, J_mul, J_lt, J_le, J_eq, J_ite, J_cl, ri_j, wi_j, b2i_z, b2i_o, b2i_zo, Int.cast_ofNat_Int, Int.natCast_zero, Int.natCast_one, if_true, if_false, ite_self, Int.le_refl, J_bit, J_or, J_neg, J_oN, Int.reduceEq, Int.reduceLT, Int.reduceLE, Int.reduceNeg, Int.reduceAdd, Int.reduceSub, Int.reduceMul, Int.reduceToNat, J_shl, J_shr, V_ite, true_or, or_true, nz_j, J_div, J_rem, Option.bind_some, Option.toList_some, Option.toList_none, List.cons_append, List.nil_append, Jl21, Jl23, Jl25, Jl74, Jl83, Jl288, Jl324, Jl1800, Jlm8]
      have hwr : ∀ r : Option rRs, wrR lo (mj μ0 I0) (lo + 48) (J x) t r = r := fun r => by
        unfold wrR
        rw [rk_j, rk0 _ (by omega), hk48]
        refine if_pos ⟨by decide, J_aIn (by dsimp only; omega), by omega, ?_, by decide +kernel⟩
        rw [rk_j]
        exact ts0.1.1
      have s2 : ex PG E lo d 158 20 [some (.ref lo), some (.int (J (x)))] [] (mj μ I) = ex PG E lo d 158 33 [some (.ref lo), some (.int (J (x)))] [] (mj μ1 I0) := by
        rw [eμ1, ← ec]
        have et' : rz (mj μ I) = t := et.symm
        rw [et'] at e0'
        simp (disch := omega) only [b158_20, b158_32, gO_k hO, gR_k f0, gR_k f1, gR_k f2, gR_k f3, gR_k f4, gR_k f5, gR_k f6, gR_k f7, gR_k f8, gO_D hD, gR_D0 hD, gR_D4 hD, gR_D5 hD, gR_D6 hD, gR_D7 hD, gR_D8 hD, al_D1 hD, al_D2 hD, al_D3 hD, al_D4 hD, al_D5 hD, al_D6 hD, rd_D1 hD, rd_D2 hD, rd_D3 hD, rd_D4 hD, rd_D5 hD, rd_D6 hD, et', e0', hwr, wr_j, Jl0, Jl1, Jl2, Jl3, Jl4, Jl5, Jl6, Jl7, Jl8, Jl9, Jl10, Jl11, Jl12, Jl13, Jl14, Jl15, Jl16, Jl17, Jl18, Jl19, Jl20, Jl22, Jl24, Jl28, Jl30, Jl31, Jl32, Jl35, Jl36, Jl37, Jl38, Jl39, Jl40, Jl48, Jl57, Jl59, Jl60, Jl61, Jl63, Jl64, Jl68, Jl69, Jl96, Jl97, Jl98, Jl99, Jl100, Jl122, Jl149, Jl150, Jl165, Jl255, Jl511, Jl512, Jl600, Jl610, Jl940, Jl968, Jl999, Jl1134, Jl1152, Jl2048, Jl4608, Jl9999, Jl99999, Jl100000, Jl147456, Jl12345, Jl1103515245, Jl100000000, Jlm1, Jlm2, J_add, J_sub, J_mul, J_lt, J_le, J_eq, J_ite, J_cl, ri_j, wi_j, b2i_z, b2i_o, b2i_zo, Int.cast_ofNat_Int, Int.natCast_zero, Int.natCast_one, if_true, if_false, ite_self, Int.le_refl, J_bit, J_or, J_neg, J_oN, Int.reduceEq, Int.reduceLT, Int.reduceLE, Int.reduceNeg, Int.reduceAdd, Int.reduceSub, Int.reduceMul, Int.reduceToNat, J_shl, J_shr, V_ite, true_or, or_true, nz_j, J_div, J_rem, Option.bind_some, Option.toList_some, Option.toList_none, List.cons_append, List.nil_append, Jl21, Jl23, Jl25, Jl74, Jl83, Jl288, Jl324, Jl1800, Jlm8]
      have g2 : rr μ1 (lo + 48) (J x).toNatClampNeg = some t := by rw [ec, eμ1, rr_wr, if_pos ⟨rfl, rfl⟩]
      have hk1 : rk μ1 (lo + 48) = some (.inr (12, 3)) := by rw [rk1, rk0 _ (by omega)]; exact hk48
      have kt := ts1.1.1
      rw [s0, s1, s2]
      clear hO f0 f1 f2 f3 f4 f5 f6 f7 f8 hD
      obtain ⟨hO, f0, f1, f2, f3, f4, f5, f6, f7, f8, hD⟩ := CO.o hC1
      have rdx := fun (r : Option rRs) => rdR_k (I := I0) (x := x) (r := r) hk1 (by decide) (by omega)
      simp (disch := omega) only [b158_33, b158_46, gO_k hO, gR_k f0, gR_k f1, gR_k f2, gR_k f3, gR_k f4, gR_k f5, gR_k f6, gR_k f7, gR_k f8, gO_D hD, gR_D0 hD, gR_D4 hD, gR_D5 hD, gR_D6 hD, gR_D7 hD, gR_D8 hD, al_D1 hD, al_D2 hD, al_D3 hD, al_D4 hD, al_D5 hD, al_D6 hD, rd_D1 hD, rd_D2 hD, rd_D3 hD, rd_D4 hD, rd_D5 hD, rd_D6 hD, rdx, gR_k g2, gO_k kt, c1, Jl0, Jl1, Jl2, Jl3, Jl4, Jl5, Jl6, Jl7, Jl8, Jl9, Jl10, Jl11, Jl12, Jl13, Jl14, Jl15, Jl16, Jl17, Jl18, Jl19, Jl20, Jl22, Jl24, Jl28, Jl30, Jl31, Jl32, Jl35, Jl36, Jl37, Jl38, Jl39, Jl40, Jl48, Jl57, Jl59, Jl60, Jl61, Jl63, Jl64, Jl68, Jl69, Jl96, Jl97, Jl98, Jl99, Jl100, Jl122, Jl149, Jl150, Jl165, Jl255, Jl511, Jl512, Jl600, Jl610, Jl940, Jl968, Jl999, Jl1134, Jl1152, Jl2048, Jl4608, Jl9999, Jl99999, Jl100000, Jl147456, Jl12345, Jl1103515245, Jl100000000, Jlm1, Jlm2, J_add, J_sub, J_mul, J_lt, J_le, J_eq, J_ite, J_cl, ri_j, wi_j, b2i_z, b2i_o, b2i_zo, Int.cast_ofNat_Int, Int.natCast_zero, Int.natCast_one, if_true, if_false, ite_self, Int.le_refl, J_bit, J_or, J_neg, J_oN, Int.reduceEq, Int.reduceLT, Int.reduceLE, Int.reduceNeg, Int.reduceAdd, Int.reduceSub, Int.reduceMul, Int.reduceToNat, J_shl, J_shr, V_ite, true_or, or_true, nz_j, J_div, J_rem, Option.bind_some, Option.toList_some, Option.toList_none, List.cons_append, List.nil_append, Jl21, Jl23, Jl25, Jl74, Jl83, Jl288, Jl324, Jl1800, Jlm8]
    · rw [c2 a z1]
      exact k0 a (by omega)
    · obtain ⟨w1, w2, w3, w4, w5⟩ := c3
      have wf : ∀ a, a < t → I0 a = I a := k0
      refine TRl_src (fun x z1 z2 => wf x (by omega)) ⟨w1, w2, w3, w4, w5⟩
    · rw [eμ1, eμ0]
      exact Nat.le_refl _
    · rw [rk1]
      exact rk0 a (by omega)
    · rw [rr1 a f z2]
      exact rr0 a f (by omega)
    · rw [eμ1, rr_wr, if_pos ⟨rfl, rfl⟩]
    · rw [eμ1, eμ0, ← et]
      rfl
    · rw [eμ1, eμ0]
      rfl
  · -- the one that is there
    obtain ⟨I1, c1, c2, c3⟩ := tcp_sp (E := E) (lo := lo) (d := d) (μ := μ) (I := I) (a := t) (b := lo + 1) (by omega) q4 (TS_CO hC) (by omega) (by omega) h9
    refine ⟨μ, I1, t, ?_, fun a z1 z2 => c2 a z1, c3, q4, q3.1, q3.2, fun a z => rfl, fun a f z1 z2 => rfl, q2, Or.inr ⟨q2, rfl, rfl⟩⟩
    have g2 : rr μ (lo + 48) (J x).toNatClampNeg = some t := by rw [ec]; exact q2
    have kt := q4.1.1
    have rdx := fun (r : Option rRs) => rdR_k (I := I) (x := x) (r := r) hk48 (by decide) (by omega)
    rw [s0]
    simp (disch := omega) only [b158_11, b158_33, b158_46, gO_k hO, gR_k f0, gR_k f1, gR_k f2, gR_k f3, gR_k f4, gR_k f5, gR_k f6, gR_k f7, gR_k f8, gO_D hD, gR_D0 hD, gR_D4 hD, gR_D5 hD, gR_D6 hD, gR_D7 hD, gR_D8 hD, al_D1 hD, al_D2 hD, al_D3 hD, al_D4 hD, al_D5 hD, al_D6 hD, rd_D1 hD, rd_D2 hD, rd_D3 hD, rd_D4 hD, rd_D5 hD, rd_D6 hD, rdx, gR_k g2, gO_k kt, c1, Jl0, Jl1, Jl2, Jl3, Jl4, Jl5, Jl6, Jl7, Jl8, Jl9, Jl10, Jl11, Jl12, Jl13, Jl14, Jl15, Jl16, Jl17, Jl18, Jl19, Jl20, Jl22, Jl24, Jl28, Jl30, Jl31, Jl32, Jl35, Jl36, Jl37, Jl38, Jl39, Jl40, Jl48, Jl57, Jl59, Jl60, Jl61, Jl63, Jl64, Jl68, Jl69, Jl96, Jl97, Jl98, Jl99, Jl100, Jl122, Jl149, Jl150, Jl165, Jl255, Jl511, Jl512, Jl600, Jl610, Jl940, Jl968, Jl999, Jl1134, Jl1152, Jl2048, Jl4608, Jl9999, Jl99999, Jl100000, Jl147456, Jl12345, Jl1103515245, Jl100000000, Jlm1, Jlm2, J_add, J_sub, J_mul, J_lt, J_le, J_eq, J_ite, J_cl, ri_j, wi_j, b2i_z, b2i_o, b2i_zo, Int.cast_ofNat_Int, Int.natCast_zero, Int.natCast_one, if_true, if_false, ite_self, Int.le_refl, J_bit, J_or, J_neg, J_oN, Int.reduceEq, Int.reduceLT, Int.reduceLE, Int.reduceNeg, Int.reduceAdd, Int.reduceSub, Int.reduceMul, Int.reduceToNat, J_shl, J_shr, V_ite, true_or, or_true, nz_j, J_div, J_rem, Option.bind_some, Option.toList_some, Option.toList_none, List.cons_append, List.nil_append, Jl21, Jl23, Jl25, Jl74, Jl83, Jl288, Jl324, Jl1800, Jlm8]
end IMAGE
