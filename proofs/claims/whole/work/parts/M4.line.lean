/-! THE CLASS'S SCRIBE: a line is taken -/
/-- the class's reader stands at the token at w -/
def RX (B : Int → Int) (n : Int) (X : Int → Int) (w : Int) : Prop := (X 1 = n ∧ X 2 = tE B n w ∧ X 3 = tK B n w ∧ X 4 = w) ∧ (tT B n w = 1 → X 5 = nv B n w) ∧ (0 ≤ w ∧ w ≤ n)
theorem RX_at {B X : Int → Int} {n p : Int} (h1 : X 1 = n) (hp : 0 ≤ p ∧ p ≤ n) : RX B n (nxX X B n p) (tW B n p) := by
  have := tW_n (B := B) hp
  unfold nxX
  refine ⟨⟨by rw [rdX_g1]; exact h1, rdX_g2, rdX_g3, rdX_g4⟩, fun t => ?_, by omega⟩
  obtain ⟨t1, t2, _, _⟩ := tT_1 t
  rw [rdX_g5, if_pos ⟨t1, t2⟩]
  rfl
theorem RX_nx {B X : Int → Int} {n w : Int} (h : RX B n X w) : RX B n (nxX X B (X 1) (X 2)) (nx B n w) := by
  obtain ⟨⟨h1, h2, h3, h4⟩, h5, h6⟩ := h
  have := tE_n (B := B) h6
  rw [h1, h2]
  exact RX_at h1 (by omega)
theorem wn_s {B : Int → Int} {n w : Int} : ∀ k : Nat, wn B n (nx B n w) k = wn B n w (k + 1)
  | 0 => rfl
  | k + 1 => by
    show nx B n (wn B n (nx B n w) k) = nx B n (wn B n w (k + 1))
    rw [wn_s k]
theorem enW_wn {B : Int → Int} {n : Int} : ∀ (k : Nat) (w : Int), enW B n k w = nx B n (wn B n w k)
  | 0, w => rfl
  | k + 1, w => by
    show enW B n k (nx B n w) = _
    rw [enW_wn k (nx B n w), wn_s]
theorem cbQ_c {ln i : Int} {V V' : Int → Int} (hi : 0 ≤ i) (h : ∀ j, 0 ≤ j → j ≤ i → V j = V' j) : cbQ ln i V = cbQ ln i V' := by
  unfold cbQ
  rw [h i hi (Int.le_refl _)]
  by_cases c1 : i = 1
  · rw [h 0 (by omega) (by omega), h 1 (by omega) (by omega)]
    subst c1
    apply decide_eq_decide.mpr
    constructor
    · rintro ⟨a, b⟩
      refine ⟨a, ?_⟩
      split at b
      · rename_i q; rw [if_pos q]; exact b
      · rename_i q; rw [if_neg q]; exact Or.inr (Or.inl (by decide))
    · rintro ⟨a, b⟩
      refine ⟨a, ?_⟩
      split at b
      · rename_i q; rw [if_pos q]; exact b
      · rename_i q; rw [if_neg q]; exact Or.inr (Or.inl (by decide))
  · by_cases c3 : i = 3
    · rw [h 2 (by omega) (by omega), h 3 (by omega) (by omega)]
      apply decide_eq_decide.mpr
      rw [if_neg (fun q => c1 q.1), if_neg (fun q => c1 q.1)]
    · apply decide_eq_decide.mpr
      rw [if_neg (fun q => c1 q.1), if_neg (fun q => c1 q.1)]
      exact ⟨fun q => ⟨q.1, Or.inr (Or.inl c3)⟩, fun q => ⟨q.1, Or.inr (Or.inl c3)⟩⟩
/-- what taking numbers leaves as it was -/
def NuF (Z Z' : Nat → Int → Int) : Prop := (∀ a, a ≠ 0 → a ≠ 1 → a ≠ 22 → Z' a = Z a) ∧ ∀ j, j ≠ 6 → j ≠ 7 → Z' 0 j = Z 0 j
theorem NuF_r {Z : Nat → Int → Int} : NuF Z Z := ⟨fun _ _ _ _ => rfl, fun _ _ _ => rfl⟩
theorem NuF_t {Z Z' Z'' : Nat → Int → Int} (h : NuF Z Z') (k : NuF Z' Z'') : NuF Z Z'' := ⟨fun a h1 h2 h3 => (k.1 a h1 h2 h3).trans (h.1 a h1 h2 h3), fun j h1 h2 => (k.2 j h1 h2).trans (h.2 j h1 h2)⟩
theorem NuF_d {Z Z' : Nat → Int → Int} {s : Int} (h : NuF Z Z') : dZ s Z' = dZ s Z := by
  unfold dZ
  rw [rwk_c (k := 2) (m := 13) (fun a q1 q2 => h.1 a (by omega) (by omega) (by omega)), rwk_c (k := 15) (m := 2) (fun a q1 q2 => h.1 a (by omega) (by omega) (by omega)), rwk_c (k := 17) (m := 3) (fun a q1 q2 => h.1 a (by omega) (by omega) (by omega)), rwk_c (k := 20) (m := 2) (fun a q1 q2 => h.1 a (by omega) (by omega) (by omega)), h.2 8 (by omega) (by omega), h.2 9 (by omega) (by omega)]
theorem NuF_sA {Z : Nat → Int → Int} {f : Int → Int} {c : Nat} (h : c = 1 ∨ c = 22) : NuF Z (sA Z c f) := ⟨fun a h1 h2 h3 => sA_n (by omega), fun j _ _ => by rw [sA_n (by omega)]⟩
theorem NuF_u3 {Z : Nat → Int → Int} {x v : Int} : NuF Z (u3 Z 1 x v) := ⟨fun a h1 h2 h3 => u3_c (by omega), fun j _ _ => by rw [u3_c (by omega)]⟩
theorem NuF_nt {Z : Nat → Int → Int} {k p : Int} : NuF Z (ntZ Z k p) := by
  unfold ntZ
  split
  · exact ⟨fun a h1 h2 h3 => by rw [u3_c (by omega), u3_c (by omega)], fun j h1 h2 => by rw [u3_n (by omega), u3_n (by omega)]⟩
  · exact NuF_r
theorem ntZ_q {Z : Nat → Int → Int} {k p : Int} : (ntZ Z k p 0 6, ntZ Z k p 0 7) = if Z 0 6 = 0 then (k, p) else (Z 0 6, Z 0 7) := by
  unfold ntZ
  split
  · rw [u3_n (by omega), u3_s, u3_s]
  · rfl
theorem ntZ_c {Z : Nat → Int → Int} {k p : Int} {c : Nat} (h : c ≠ 0) : ntZ Z k p c = Z c := by
  unfold ntZ
  split
  · rw [u3_c (by omega), u3_c (by omega)]
  · rfl
section LINE
variable {E : (Nat → Value) × (Nat → Nat)} {lo d b c : Nat} {μ : rM} {I Z : Nat → Int → Int} {s ln w n : Int} {B : Int → Int}
theorem nxt_sp (hd : 3 ≤ d) (hX : ShX μ c b) (hl : lo ≤ c) (hb : b < c) (hB : TpB I b B) (hn : n ≤ 600) (hR : RX B n (Z 22) w) : cl E lo d 52 [.ref ((c + 22))] (mj μ (sB I c 23 Z)) = some (none, mj μ (sB I c 23 (sA Z 22 (nxX (Z 22) B (Z 22 1) (Z 22 2))))) := by
  obtain ⟨⟨h1, h2, h3, h4⟩, h5, h6⟩ := hR
  have hE := tE_n (B := B) h6
  have hr := hX.2.2.2.2.2.2
  have hB' : TpB (sB I c 23 Z) b B := fun j q1 q2 => by rw [sB_n (by omega)]; exact hB j q1 q2
  have := next_sp (E := E) (lo := lo) (d := d) (I := sB I c 23 Z) (X := Z 22) hd hr (by omega) (by rw [h1]; omega) (by rw [h2]; omega) hB'
  rw [sA_sB (by omega), sA_sB (by omega), sA_id] at this
  exact this
theorem wo4_sp (hd : 1 ≤ d) (hs : 0 ≤ s ∧ s < 4) : cl E lo d 67 [.int (J (s))] μ = some (some (.ref (E.2 s.toNat)), μ) := by
  obtain ⟨d, rfl⟩ : ∃ e, d = e + 1 := ⟨d - 1, by omega⟩
  have hs' : s = 0 ∨ s = 1 ∨ s = 2 ∨ s = 3 := by omega
  rcases hs' with rfl | rfl | rfl | rfl
  · simp (disch := omega) only [b67_0, e67, tsw_j, List.length_cons, List.length_nil, Jl0, Jl1, Jl2, Jl3, Jl4, Jl5, Jl6, Jl7, Jl8, Jl9, Jl10, Jl11, Jl12, Jl13, Jl14, Jl15, Jl16, Jl17, Jl18, Jl19, Jl20, Jl22, Jl24, Jl28, Jl30, Jl31, Jl32, Jl35, Jl36, Jl37, Jl38, Jl39, Jl40, Jl48, Jl57, Jl59, Jl60, Jl61, Jl63, Jl64, Jl68, Jl69, Jl96, Jl97, Jl98, Jl99, Jl100, Jl122, Jl149, Jl150, Jl165, Jl255, Jl511, Jl512, Jl600, Jl610, Jl940, Jl968, Jl999, Jl1134, Jl1152, Jl2048, Jl4608, Jl9999, Jl99999, Jl100000, Jl147456, Jl12345, Jl1103515245, Jl100000000, Jlm1, Jlm2, J_add, J_sub, J_mul, J_lt, J_le, J_eq, J_ite, J_cl, ri_j, wi_j, b2i_z, b2i_o, b2i_zo, Int.cast_ofNat_Int, Int.natCast_zero, Int.natCast_one, if_true, if_false, ite_self, Int.le_refl, J_bit, J_or, J_neg, J_oN, Int.reduceEq, Int.reduceLT, Int.reduceLE, Int.reduceNeg, Int.reduceAdd, Int.reduceSub, Int.reduceMul, Int.reduceToNat, J_shl, J_shr, V_ite, true_or, or_true, nz_j, J_div, J_rem, Option.bind_some, Option.toList_some, Option.toList_none, List.cons_append, List.nil_append, Jl21, Jl23, Jl25, Jl74, Jl83, Jl288, Jl324, Jl1800, Jlm8]
    show ex PG E lo d 67 28 [some (.int (J (0)))] [] _ = _
    rw [b67_28]
  · simp (disch := omega) only [b67_0, e67, tsw_j, List.length_cons, List.length_nil, Jl0, Jl1, Jl2, Jl3, Jl4, Jl5, Jl6, Jl7, Jl8, Jl9, Jl10, Jl11, Jl12, Jl13, Jl14, Jl15, Jl16, Jl17, Jl18, Jl19, Jl20, Jl22, Jl24, Jl28, Jl30, Jl31, Jl32, Jl35, Jl36, Jl37, Jl38, Jl39, Jl40, Jl48, Jl57, Jl59, Jl60, Jl61, Jl63, Jl64, Jl68, Jl69, Jl96, Jl97, Jl98, Jl99, Jl100, Jl122, Jl149, Jl150, Jl165, Jl255, Jl511, Jl512, Jl600, Jl610, Jl940, Jl968, Jl999, Jl1134, Jl1152, Jl2048, Jl4608, Jl9999, Jl99999, Jl100000, Jl147456, Jl12345, Jl1103515245, Jl100000000, Jlm1, Jlm2, J_add, J_sub, J_mul, J_lt, J_le, J_eq, J_ite, J_cl, ri_j, wi_j, b2i_z, b2i_o, b2i_zo, Int.cast_ofNat_Int, Int.natCast_zero, Int.natCast_one, if_true, if_false, ite_self, Int.le_refl, J_bit, J_or, J_neg, J_oN, Int.reduceEq, Int.reduceLT, Int.reduceLE, Int.reduceNeg, Int.reduceAdd, Int.reduceSub, Int.reduceMul, Int.reduceToNat, J_shl, J_shr, V_ite, true_or, or_true, nz_j, J_div, J_rem, Option.bind_some, Option.toList_some, Option.toList_none, List.cons_append, List.nil_append, Jl21, Jl23, Jl25, Jl74, Jl83, Jl288, Jl324, Jl1800, Jlm8]
    show ex PG E lo d 67 31 [some (.int (J (1)))] [] _ = _
    rw [b67_31]
  · simp (disch := omega) only [b67_0, e67, tsw_j, List.length_cons, List.length_nil, Jl0, Jl1, Jl2, Jl3, Jl4, Jl5, Jl6, Jl7, Jl8, Jl9, Jl10, Jl11, Jl12, Jl13, Jl14, Jl15, Jl16, Jl17, Jl18, Jl19, Jl20, Jl22, Jl24, Jl28, Jl30, Jl31, Jl32, Jl35, Jl36, Jl37, Jl38, Jl39, Jl40, Jl48, Jl57, Jl59, Jl60, Jl61, Jl63, Jl64, Jl68, Jl69, Jl96, Jl97, Jl98, Jl99, Jl100, Jl122, Jl149, Jl150, Jl165, Jl255, Jl511, Jl512, Jl600, Jl610, Jl940, Jl968, Jl999, Jl1134, Jl1152, Jl2048, Jl4608, Jl9999, Jl99999, Jl100000, Jl147456, Jl12345, Jl1103515245, Jl100000000, Jlm1, Jlm2, J_add, J_sub, J_mul, J_lt, J_le, J_eq, J_ite, J_cl, ri_j, wi_j, b2i_z, b2i_o, b2i_zo, Int.cast_ofNat_Int, Int.natCast_zero, Int.natCast_one, if_true, if_false, ite_self, Int.le_refl, J_bit, J_or, J_neg, J_oN, Int.reduceEq, Int.reduceLT, Int.reduceLE, Int.reduceNeg, Int.reduceAdd, Int.reduceSub, Int.reduceMul, Int.reduceToNat, J_shl, J_shr, V_ite, true_or, or_true, nz_j, J_div, J_rem, Option.bind_some, Option.toList_some, Option.toList_none, List.cons_append, List.nil_append, Jl21, Jl23, Jl25, Jl74, Jl83, Jl288, Jl324, Jl1800, Jlm8]
    show ex PG E lo d 67 34 [some (.int (J (2)))] [] _ = _
    rw [b67_34]
  · simp (disch := omega) only [b67_0, b67_37, e67, tsw_j, List.length_cons, List.length_nil, Jl0, Jl1, Jl2, Jl3, Jl4, Jl5, Jl6, Jl7, Jl8, Jl9, Jl10, Jl11, Jl12, Jl13, Jl14, Jl15, Jl16, Jl17, Jl18, Jl19, Jl20, Jl22, Jl24, Jl28, Jl30, Jl31, Jl32, Jl35, Jl36, Jl37, Jl38, Jl39, Jl40, Jl48, Jl57, Jl59, Jl60, Jl61, Jl63, Jl64, Jl68, Jl69, Jl96, Jl97, Jl98, Jl99, Jl100, Jl122, Jl149, Jl150, Jl165, Jl255, Jl511, Jl512, Jl600, Jl610, Jl940, Jl968, Jl999, Jl1134, Jl1152, Jl2048, Jl4608, Jl9999, Jl99999, Jl100000, Jl147456, Jl12345, Jl1103515245, Jl100000000, Jlm1, Jlm2, J_add, J_sub, J_mul, J_lt, J_le, J_eq, J_ite, J_cl, ri_j, wi_j, b2i_z, b2i_o, b2i_zo, Int.cast_ofNat_Int, Int.natCast_zero, Int.natCast_one, if_true, if_false, ite_self, Int.le_refl, J_bit, J_or, J_neg, J_oN, Int.reduceEq, Int.reduceLT, Int.reduceLE, Int.reduceNeg, Int.reduceAdd, Int.reduceSub, Int.reduceMul, Int.reduceToNat, J_shl, J_shr, V_ite, true_or, or_true, nz_j, J_div, J_rem, Option.bind_some, Option.toList_some, Option.toList_none, List.cons_append, List.nil_append, Jl21, Jl23, Jl25, Jl74, Jl83, Jl288, Jl324, Jl1800, Jlm8]
    rfl
theorem fL_g (hs : 0 ≤ s ∧ s < 4) : gl fL s = fiL s := by
  have hs' : s = 0 ∨ s = 1 ∨ s = 2 ∨ s = 3 := by omega
  rcases hs' with rfl | rfl | rfl | rfl <;> rfl
/-- which line begins here -/
theorem lh_sp (hd : 8 ≤ d) (hX : ShX μ c b) (hl : lo ≤ c) (hb : b < c) (hB : TpB I b B) (hn : n ≤ 600) (hSt : Sta E lo μ I) (hs : 0 ≤ s ∧ s < 4) (hR : RX B n (Z 22) w) : cl E lo d 66 [.ref c, .int (J (s))] (mj μ (sB I c 23 Z)) = some (some (.int (J (if tT B n w = 3 ∧ fiL s + 1 ≤ wdC B w (tE B n w) ∧ wdC B w (tE B n w) ≤ laL s + 1 then wdC B w (tE B n w) - 1 else -1))), mj μ (sB I c 23 Z)) := by
  obtain ⟨d, rfl⟩ : ∃ e, d = e + 1 := ⟨d - 1, by omega⟩
  obtain ⟨⟨hXk, hX0, hX1, hX2, hX3, hX4, hX5⟩, hXn, hXS, hXL, hXR, hXC, hXr⟩ := id hX
  have hlNu : lo ≤ c + 1 := by omega
  have hlS : lo ≤ c + 2 := by omega
  have hlL : lo ≤ c + 15 := by omega
  have hlR : lo ≤ c + 17 := by omega
  have hlC : lo ≤ c + 20 := by omega
  obtain ⟨⟨h1, h2, h3, h4⟩, h5, h6⟩ := hR
  have hE := tE_n (B := B) h6
  obtain ⟨K1, K2, K3, K4, K5⟩ := tK_T B n w
  have k0 : -1 ≤ tK B n w ∧ tK B n w ≤ 4 := by
    unfold tK
    repeat' (first | omega | split)
  obtain ⟨⟨t0, t1, t2, t3, t4, _, ⟨s1, l1, k1, v1⟩, _⟩, hTx⟩ := hSt
  obtain ⟨ad, hT⟩ := hTx s.toNat (by omega)
  have es : ((s.toNat : Nat) : Int) = s := by omega
  rw [es] at hT
  have k1' : rk μ t1 = some (.inr (0, 4)) := k1
  have n1 : sB I c 23 Z t1 = I t1 := sB_n (by omega)
  have e1 : I t1 s = fiL s := by rw [v1 s hs.1 (by show s < 4; omega), fL_g hs]
  have hw4 := wo4_sp (E := E) (lo := lo) (d := d) (μ := mj μ (sB I c 23 Z)) (s := s) (by omega) hs
  have fb : 0 ≤ fiL s ∧ fiL s ≤ 20 := by
    have hs' : s = 0 ∨ s = 1 ∨ s = 2 ∨ s = 3 := by omega
    rcases hs' with rfl | rfl | rfl | rfl <;> decide
  have lb : laL s ≤ 21 := by
    have hs' : s = 0 ∨ s = 1 ∨ s = 2 ∨ s = 3 := by omega
    rcases hs' with rfl | rfl | rfl | rfl <;> decide
  have r3 : Z 22 3 = tK B n w := h3
  by_cases q : tK B n w = 1
  · obtain ⟨u1, u2, u3'⟩ := K5 q
    have hT' : ShTx E μ (sA (sB I c 23 Z) (c + 22) (Z 22)) (E.2 s.toNat) s.toNat (chL s).length (gl (chL s)) := by
      obtain ⟨a1, a2, ⟨a3, a4⟩, a5⟩ := hT
      refine ⟨a1, a2, ⟨a3, fun j g1 g2 => ?_⟩, a5⟩
      rw [sA_n (by omega), sB_n (by omega)]
      exact a4 j g1 g2
    have hB' : TpB (sB I c 23 Z) b B := fun j q1 q2 => by rw [sB_n (by omega)]; exact hB j q1 q2
    have hw := win_sp (E := E) (lo := lo) (d := d) (I := sB I c 23 Z) (X := Z 22) (B := B) (by omega) hXr (by omega) hT' (by rw [h4]; omega) (by rw [h2]; omega) hB'
    rw [h4, h2, wl_s hs ⟨h6.1, u1⟩ u2, sA_sB (by omega), sA_id] at hw
    have q3 : tT B n w = 3 ∨ ¬ (fiL s + 1 ≤ wdC B w (tE B n w) ∧ wdC B w (tE B n w) ≤ laL s + 1) := by
      rcases u3' with a | ⟨a1, a2⟩
      · exact Or.inl a
      · exact Or.inr (by omega)
    by_cases g : fiL s + 1 ≤ wdC B w (tE B n w) ∧ wdC B w (tE B n w) ≤ laL s + 1
    · rw [if_pos g] at hw
      rw [if_pos ⟨q3.resolve_right (fun z => z g), g⟩]
      simp (disch := omega) only [b66_0, b66_11, b66_15, b66_22, b66_30, b66_33, b66_43, b66_46, b66_50, e66, gO_k hXk, gP_k hXk hl, gR_k hX0, gR_k hX1, gR_k hX2, gR_k hX3, gR_k hX4, gR_k hX5, rdA_k hXn, wrA_k hXn hlNu, gO_k hXr.1, gO_S hXS, gR_S2 hXS, gR_S4 hXS, gR_S5 hXS, gR_S6 hXS, gR_S7 hXS, gR_S8 hXS, gR_S9 hXS, gR_S10 hXS, gR_S11 hXS, gR_S12 hXS, gR_S14 hXS, gR_S15 hXS, al_S1 hXS, al_S2 hXS, al_S3 hXS, al_S4 hXS, al_S5 hXS, al_S6 hXS, al_S7 hXS, al_S8 hXS, al_S9 hXS, al_S10 hXS, al_S11 hXS, al_S12 hXS, rd_S1 hXS, rd_S2 hXS, rd_S3 hXS, rd_S4 hXS, rd_S5 hXS, rd_S6 hXS, rd_S7 hXS, rd_S8 hXS, rd_S9 hXS, rd_S10 hXS, rd_S11 hXS, rd_S12 hXS, gP_S hXS hlS, wr_S1 hXS hlS, wr_S2 hXS hlS, wr_S3 hXS hlS, wr_S4 hXS hlS, wr_S5 hXS hlS, wr_S6 hXS hlS, wr_S7 hXS hlS, wr_S8 hXS hlS, wr_S9 hXS hlS, wr_S10 hXS hlS, wr_S11 hXS hlS, wr_S12 hXS hlS, gO_L hXL, gR_L5 hXL, al_L1 hXL, rd_L1 hXL, gP_L hXL hlL, wr_L1 hXL hlL, gO_R hXR, gR_R3 hXR, gR_R4 hXR, al_R1 hXR, al_R2 hXR, rd_R1 hXR, rd_R2 hXR, gP_R hXR hlR, wr_R1 hXR hlR, wr_R2 hXR hlR, gO_C hXC, gR_C1 hXC, al_C1 hXC, rd_C1 hXC, gP_C hXC hlC, wr_C1 hXC hlC, Nat.add_assoc, Nat.reduceAdd, sB_0, sB_c, u3_sB0, u3_sB, u3_s, u3_n, Nat.reduceLT, r3, q, hw4, hw, s1, rdA_k k1', n1, e1, Jl0, Jl1, Jl2, Jl3, Jl4, Jl5, Jl6, Jl7, Jl8, Jl9, Jl10, Jl11, Jl12, Jl13, Jl14, Jl15, Jl16, Jl17, Jl18, Jl19, Jl20, Jl22, Jl24, Jl28, Jl30, Jl31, Jl32, Jl35, Jl36, Jl37, Jl38, Jl39, Jl40, Jl48, Jl57, Jl59, Jl60, Jl61, Jl63, Jl64, Jl68, Jl69, Jl96, Jl97, Jl98, Jl99, Jl100, Jl122, Jl149, Jl150, Jl165, Jl255, Jl511, Jl512, Jl600, Jl610, Jl940, Jl968, Jl999, Jl1134, Jl1152, Jl2048, Jl4608, Jl9999, Jl99999, Jl100000, Jl147456, Jl12345, Jl1103515245, Jl100000000, Jlm1, Jlm2, J_add, J_sub, J_mul, J_lt, J_le, J_eq, J_ite, J_cl, ri_j, wi_j, b2i_z, b2i_o, b2i_zo, Int.cast_ofNat_Int, Int.natCast_zero, Int.natCast_one, if_true, if_false, ite_self, Int.le_refl, J_bit, J_or, J_neg, J_oN, Int.reduceEq, Int.reduceLT, Int.reduceLE, Int.reduceNeg, Int.reduceAdd, Int.reduceSub, Int.reduceMul, Int.reduceToNat, J_shl, J_shr, V_ite, true_or, or_true, nz_j, J_div, J_rem, Option.bind_some, Option.toList_some, Option.toList_none, List.cons_append, List.nil_append, Jl21, Jl23, Jl25, Jl74, Jl83, Jl288, Jl324, Jl1800, Jlm8]
      repeat (first | rw [if_neg (by omega)] | rw [if_pos (by omega)])
      refine V_ok _ ?_
      omega
    · rw [if_neg g] at hw
      rw [if_neg (fun z => g z.2)]
      simp (disch := omega) only [b66_0, b66_11, b66_15, b66_22, b66_30, b66_33, b66_39, b66_50, e66, gO_k hXk, gP_k hXk hl, gR_k hX0, gR_k hX1, gR_k hX2, gR_k hX3, gR_k hX4, gR_k hX5, rdA_k hXn, wrA_k hXn hlNu, gO_k hXr.1, gO_S hXS, gR_S2 hXS, gR_S4 hXS, gR_S5 hXS, gR_S6 hXS, gR_S7 hXS, gR_S8 hXS, gR_S9 hXS, gR_S10 hXS, gR_S11 hXS, gR_S12 hXS, gR_S14 hXS, gR_S15 hXS, al_S1 hXS, al_S2 hXS, al_S3 hXS, al_S4 hXS, al_S5 hXS, al_S6 hXS, al_S7 hXS, al_S8 hXS, al_S9 hXS, al_S10 hXS, al_S11 hXS, al_S12 hXS, rd_S1 hXS, rd_S2 hXS, rd_S3 hXS, rd_S4 hXS, rd_S5 hXS, rd_S6 hXS, rd_S7 hXS, rd_S8 hXS, rd_S9 hXS, rd_S10 hXS, rd_S11 hXS, rd_S12 hXS, gP_S hXS hlS, wr_S1 hXS hlS, wr_S2 hXS hlS, wr_S3 hXS hlS, wr_S4 hXS hlS, wr_S5 hXS hlS, wr_S6 hXS hlS, wr_S7 hXS hlS, wr_S8 hXS hlS, wr_S9 hXS hlS, wr_S10 hXS hlS, wr_S11 hXS hlS, wr_S12 hXS hlS, gO_L hXL, gR_L5 hXL, al_L1 hXL, rd_L1 hXL, gP_L hXL hlL, wr_L1 hXL hlL, gO_R hXR, gR_R3 hXR, gR_R4 hXR, al_R1 hXR, al_R2 hXR, rd_R1 hXR, rd_R2 hXR, gP_R hXR hlR, wr_R1 hXR hlR, wr_R2 hXR hlR, gO_C hXC, gR_C1 hXC, al_C1 hXC, rd_C1 hXC, gP_C hXC hlC, wr_C1 hXC hlC, Nat.add_assoc, Nat.reduceAdd, sB_0, sB_c, u3_sB0, u3_sB, u3_s, u3_n, Nat.reduceLT, r3, q, hw4, hw, Jl0, Jl1, Jl2, Jl3, Jl4, Jl5, Jl6, Jl7, Jl8, Jl9, Jl10, Jl11, Jl12, Jl13, Jl14, Jl15, Jl16, Jl17, Jl18, Jl19, Jl20, Jl22, Jl24, Jl28, Jl30, Jl31, Jl32, Jl35, Jl36, Jl37, Jl38, Jl39, Jl40, Jl48, Jl57, Jl59, Jl60, Jl61, Jl63, Jl64, Jl68, Jl69, Jl96, Jl97, Jl98, Jl99, Jl100, Jl122, Jl149, Jl150, Jl165, Jl255, Jl511, Jl512, Jl600, Jl610, Jl940, Jl968, Jl999, Jl1134, Jl1152, Jl2048, Jl4608, Jl9999, Jl99999, Jl100000, Jl147456, Jl12345, Jl1103515245, Jl100000000, Jlm1, Jlm2, J_add, J_sub, J_mul, J_lt, J_le, J_eq, J_ite, J_cl, ri_j, wi_j, b2i_z, b2i_o, b2i_zo, Int.cast_ofNat_Int, Int.natCast_zero, Int.natCast_one, if_true, if_false, ite_self, Int.le_refl, J_bit, J_or, J_neg, J_oN, Int.reduceEq, Int.reduceLT, Int.reduceLE, Int.reduceNeg, Int.reduceAdd, Int.reduceSub, Int.reduceMul, Int.reduceToNat, J_shl, J_shr, V_ite, true_or, or_true, nz_j, J_div, J_rem, Option.bind_some, Option.toList_some, Option.toList_none, List.cons_append, List.nil_append, Jl21, Jl23, Jl25, Jl74, Jl83, Jl288, Jl324, Jl1800, Jlm8]
      repeat (first | rw [if_neg (by omega)] | rw [if_pos (by omega)])
  · rw [if_neg (fun z => q (K4 z.1))]
    simp (disch := omega) only [b66_0, b66_20, e66, gO_k hXk, gP_k hXk hl, gR_k hX0, gR_k hX1, gR_k hX2, gR_k hX3, gR_k hX4, gR_k hX5, rdA_k hXn, wrA_k hXn hlNu, gO_k hXr.1, gO_S hXS, gR_S2 hXS, gR_S4 hXS, gR_S5 hXS, gR_S6 hXS, gR_S7 hXS, gR_S8 hXS, gR_S9 hXS, gR_S10 hXS, gR_S11 hXS, gR_S12 hXS, gR_S14 hXS, gR_S15 hXS, al_S1 hXS, al_S2 hXS, al_S3 hXS, al_S4 hXS, al_S5 hXS, al_S6 hXS, al_S7 hXS, al_S8 hXS, al_S9 hXS, al_S10 hXS, al_S11 hXS, al_S12 hXS, rd_S1 hXS, rd_S2 hXS, rd_S3 hXS, rd_S4 hXS, rd_S5 hXS, rd_S6 hXS, rd_S7 hXS, rd_S8 hXS, rd_S9 hXS, rd_S10 hXS, rd_S11 hXS, rd_S12 hXS, gP_S hXS hlS, wr_S1 hXS hlS, wr_S2 hXS hlS, wr_S3 hXS hlS, wr_S4 hXS hlS, wr_S5 hXS hlS, wr_S6 hXS hlS, wr_S7 hXS hlS, wr_S8 hXS hlS, wr_S9 hXS hlS, wr_S10 hXS hlS, wr_S11 hXS hlS, wr_S12 hXS hlS, gO_L hXL, gR_L5 hXL, al_L1 hXL, rd_L1 hXL, gP_L hXL hlL, wr_L1 hXL hlL, gO_R hXR, gR_R3 hXR, gR_R4 hXR, al_R1 hXR, al_R2 hXR, rd_R1 hXR, rd_R2 hXR, gP_R hXR hlR, wr_R1 hXR hlR, wr_R2 hXR hlR, gO_C hXC, gR_C1 hXC, al_C1 hXC, rd_C1 hXC, gP_C hXC hlC, wr_C1 hXC hlC, Nat.add_assoc, Nat.reduceAdd, sB_0, sB_c, u3_sB0, u3_sB, u3_s, u3_n, Nat.reduceLT, r3, Jl0, Jl1, Jl2, Jl3, Jl4, Jl5, Jl6, Jl7, Jl8, Jl9, Jl10, Jl11, Jl12, Jl13, Jl14, Jl15, Jl16, Jl17, Jl18, Jl19, Jl20, Jl22, Jl24, Jl28, Jl30, Jl31, Jl32, Jl35, Jl36, Jl37, Jl38, Jl39, Jl40, Jl48, Jl57, Jl59, Jl60, Jl61, Jl63, Jl64, Jl68, Jl69, Jl96, Jl97, Jl98, Jl99, Jl100, Jl122, Jl149, Jl150, Jl165, Jl255, Jl511, Jl512, Jl600, Jl610, Jl940, Jl968, Jl999, Jl1134, Jl1152, Jl2048, Jl4608, Jl9999, Jl99999, Jl100000, Jl147456, Jl12345, Jl1103515245, Jl100000000, Jlm1, Jlm2, J_add, J_sub, J_mul, J_lt, J_le, J_eq, J_ite, J_cl, ri_j, wi_j, b2i_z, b2i_o, b2i_zo, Int.cast_ofNat_Int, Int.natCast_zero, Int.natCast_one, if_true, if_false, ite_self, Int.le_refl, J_bit, J_or, J_neg, J_oN, Int.reduceEq, Int.reduceLT, Int.reduceLE, Int.reduceNeg, Int.reduceAdd, Int.reduceSub, Int.reduceMul, Int.reduceToNat, J_shl, J_shr, V_ite, true_or, or_true, nz_j, J_div, J_rem, Option.bind_some, Option.toList_some, Option.toList_none, List.cons_append, List.nil_append, Jl21, Jl23, Jl25, Jl74, Jl83, Jl288, Jl324, Jl1800, Jlm8]
    repeat (first | rw [if_neg (by omega)] | rw [if_pos (by omega)])
/-- the numbers of a line and its semicolon -/
theorem nl_lp (hd : 4 ≤ d) (hX : ShX μ c b) (hl : lo ≤ c) (hb : b < c) (hB : TpB I b B) (hn : n ≤ 600) (hSt : Sta E lo μ I) (hln : 0 ≤ ln ∧ ln < 22) : ∀ (k : Nat) (i : Nat) (Z : Nat → Int → Int) (u : Int), i + k = nOf ln → RX B n (Z 22) u → nx B n u = wn B n (nx B n w) i → (∀ j, 0 ≤ j → j < (i : Int) → Z 1 j = vv B n (nx B n w) j) → (∀ j, 0 ≤ j → j < (i : Int) → i32 (Z 1 j)) → i32 (Z 0 6) → (∀ p, lnW B n k (nx B n u) = some p → ∃ Z', ex PG E lo d 65 40 [some (.ref c), some (.int (J (s))), some (.int (J (ln))), some (.int (J (i)))] [] (mj μ (sB I c 23 Z)) = some (some (.int (J 0)), mj μ (sB I c 23 Z')) ∧ Z' 22 4 = p ∧ NuF Z Z') ∧ (lnW B n k (nx B n u) = none → ∃ Z', ex PG E lo d 65 40 [some (.ref c), some (.int (J (s))), some (.int (J (ln))), some (.int (J (i)))] [] (mj μ (sB I c 23 Z)) = ex PG E lo d 65 135 [some (.ref c), some (.int (J (s))), some (.int (J (ln))), some (.int (J ((nOf ln))))] [] (mj μ (sB I c 23 Z')) ∧ RX B n (Z' 22) (wn B n (nx B n w) (nOf ln)) ∧ (Z' 0 6, Z' 0 7) = qF (fun j => cbQ ln j (vv B n (nx B n w))) B n k i (nx B n u) (Z 0 6, Z 0 7) ∧ (∀ j, 0 ≤ j → j < (nOf ln : Int) → Z' 1 j = vv B n (nx B n w) j) ∧ i32 (Z' 0 6) ∧ NuF Z Z') := by
  obtain ⟨⟨hXk, hX0, hX1, hX2, hX3, hX4, hX5⟩, hXn, hXS, hXL, hXR, hXC, hXr⟩ := id hX
  have hlNu : lo ≤ c + 1 := by omega
  have hlS : lo ≤ c + 2 := by omega
  have hlL : lo ≤ c + 15 := by omega
  have hlR : lo ≤ c + 17 := by omega
  have hlC : lo ≤ c + 20 := by omega
  obtain ⟨⟨t0, t1, t2, t3, t4, ⟨s0, l0, k0, v0⟩, _⟩, hTx⟩ := id hSt
  have k0' : rk μ t0 = some (.inr (0, 22)) := k0
  have e0 : I t0 ln = gl nAt ln := v0 ln hln.1 (by show ln < 22; omega)
  have lb := ln_b hln
  have n0 : ∀ Z, sB I c 23 Z t0 = I t0 := fun Z => sB_n (by omega)
  obtain ⟨N, hN⟩ : ∃ N, N = gl nAt ln := ⟨_, rfl⟩
  rw [← hN] at e0 lb
  intro k
  induction k with
  | zero =>
    intro i Z u hik hR hu hv hvi h6
    obtain ⟨⟨r1, r2, r3, r4⟩, r5⟩ := RX_nx hR
    have hx := nxt_sp (E := E) (lo := lo) (d := d) (I := I) (Z := Z) (by omega) hX hl hb hB hn hR
    obtain ⟨X, hXX⟩ : ∃ X, X = nxX (Z 22) B (Z 22 1) (Z 22 2) := ⟨_, rfl⟩
    rw [← hXX] at r1 r2 r3 r4 r5 hx
    obtain ⟨K1, K2, K3, K4, K5⟩ := tK_T B n (nx B n u)
    have kb : -1 ≤ X 3 ∧ X 3 ≤ 4 := by
      rw [r3]
      unfold tK
      repeat' (first | omega | split)
    have i3 : sA Z 22 X 22 3 = X 3 := by rw [sA_s]
    have hi : (i : Int) = N := by omega
    have s1 : ex PG E lo d 65 40 [some (.ref c), some (.int (J (s))), some (.int (J (ln))), some (.int (J (i)))] [] (mj μ (sB I c 23 Z)) = ex PG E lo d 65 122 [some (.ref c), some (.int (J (s))), some (.int (J (ln))), some (.int (J (i)))] [] (mj μ (sB I c 23 (sA Z 22 X))) := by
      simp (disch := omega) only [b65_40, b65_44, b65_115, gO_k hXk, gP_k hXk hl, gR_k hX0, gR_k hX1, gR_k hX2, gR_k hX3, gR_k hX4, gR_k hX5, rdA_k hXn, wrA_k hXn hlNu, gO_k hXr.1, gO_S hXS, gR_S2 hXS, gR_S4 hXS, gR_S5 hXS, gR_S6 hXS, gR_S7 hXS, gR_S8 hXS, gR_S9 hXS, gR_S10 hXS, gR_S11 hXS, gR_S12 hXS, gR_S14 hXS, gR_S15 hXS, al_S1 hXS, al_S2 hXS, al_S3 hXS, al_S4 hXS, al_S5 hXS, al_S6 hXS, al_S7 hXS, al_S8 hXS, al_S9 hXS, al_S10 hXS, al_S11 hXS, al_S12 hXS, rd_S1 hXS, rd_S2 hXS, rd_S3 hXS, rd_S4 hXS, rd_S5 hXS, rd_S6 hXS, rd_S7 hXS, rd_S8 hXS, rd_S9 hXS, rd_S10 hXS, rd_S11 hXS, rd_S12 hXS, gP_S hXS hlS, wr_S1 hXS hlS, wr_S2 hXS hlS, wr_S3 hXS hlS, wr_S4 hXS hlS, wr_S5 hXS hlS, wr_S6 hXS hlS, wr_S7 hXS hlS, wr_S8 hXS hlS, wr_S9 hXS hlS, wr_S10 hXS hlS, wr_S11 hXS hlS, wr_S12 hXS hlS, gO_L hXL, gR_L5 hXL, al_L1 hXL, rd_L1 hXL, gP_L hXL hlL, wr_L1 hXL hlL, gO_R hXR, gR_R3 hXR, gR_R4 hXR, al_R1 hXR, al_R2 hXR, rd_R1 hXR, rd_R2 hXR, gP_R hXR hlR, wr_R1 hXR hlR, wr_R2 hXR hlR, gO_C hXC, gR_C1 hXC, al_C1 hXC, rd_C1 hXC, gP_C hXC hlC, wr_C1 hXC hlC, Nat.add_assoc, Nat.reduceAdd, sB_0, sB_c, u3_sB0, u3_sB, u3_s, u3_n, Nat.reduceLT, s0, rdA_k k0', n0, e0, hx, Jl0, Jl1, Jl2, Jl3, Jl4, Jl5, Jl6, Jl7, Jl8, Jl9, Jl10, Jl11, Jl12, Jl13, Jl14, Jl15, Jl16, Jl17, Jl18, Jl19, Jl20, Jl22, Jl24, Jl28, Jl30, Jl31, Jl32, Jl35, Jl36, Jl37, Jl38, Jl39, Jl40, Jl48, Jl57, Jl59, Jl60, Jl61, Jl63, Jl64, Jl68, Jl69, Jl96, Jl97, Jl98, Jl99, Jl100, Jl122, Jl149, Jl150, Jl165, Jl255, Jl511, Jl512, Jl600, Jl610, Jl940, Jl968, Jl999, Jl1134, Jl1152, Jl2048, Jl4608, Jl9999, Jl99999, Jl100000, Jl147456, Jl12345, Jl1103515245, Jl100000000, Jlm1, Jlm2, J_add, J_sub, J_mul, J_lt, J_le, J_eq, J_ite, J_cl, ri_j, wi_j, b2i_z, b2i_o, b2i_zo, Int.cast_ofNat_Int, Int.natCast_zero, Int.natCast_one, if_true, if_false, ite_self, Int.le_refl, J_bit, J_or, J_neg, J_oN, Int.reduceEq, Int.reduceLT, Int.reduceLE, Int.reduceNeg, Int.reduceAdd, Int.reduceSub, Int.reduceMul, Int.reduceToNat, J_shl, J_shr, V_ite, true_or, or_true, nz_j, J_div, J_rem, Option.bind_some, Option.toList_some, Option.toList_none, List.cons_append, List.nil_append, Jl21, Jl23, Jl25, Jl74, Jl83, Jl288, Jl324, Jl1800, Jlm8]
      repeat (first | rw [if_neg (by omega)] | rw [if_pos (by omega)])
    rw [s1]
    refine ⟨fun p hp => ?_, fun hp => ?_⟩
    · have t2 : ¬ tT B n (nx B n u) = 2 := by
        intro z
        rw [show lnW B n 0 (nx B n u) = if tT B n (nx B n u) = 2 then none else some (nx B n u) from rfl, if_pos z] at hp
        exact absurd hp (by simp)
      rw [show lnW B n 0 (nx B n u) = if tT B n (nx B n u) = 2 then none else some (nx B n u) from rfl, if_neg t2] at hp
      injection hp with hp
      have x3 : ¬ X 3 = 3 := fun z => t2 (K3.mp (r3.symm.trans z))
      refine ⟨sA Z 22 X, ?_, by rw [sA_s, r4, hp], NuF_sA (Or.inr rfl)⟩
      simp (disch := omega) only [b65_122, b65_133, gO_k hXk, gP_k hXk hl, gR_k hX0, gR_k hX1, gR_k hX2, gR_k hX3, gR_k hX4, gR_k hX5, rdA_k hXn, wrA_k hXn hlNu, gO_k hXr.1, gO_S hXS, gR_S2 hXS, gR_S4 hXS, gR_S5 hXS, gR_S6 hXS, gR_S7 hXS, gR_S8 hXS, gR_S9 hXS, gR_S10 hXS, gR_S11 hXS, gR_S12 hXS, gR_S14 hXS, gR_S15 hXS, al_S1 hXS, al_S2 hXS, al_S3 hXS, al_S4 hXS, al_S5 hXS, al_S6 hXS, al_S7 hXS, al_S8 hXS, al_S9 hXS, al_S10 hXS, al_S11 hXS, al_S12 hXS, rd_S1 hXS, rd_S2 hXS, rd_S3 hXS, rd_S4 hXS, rd_S5 hXS, rd_S6 hXS, rd_S7 hXS, rd_S8 hXS, rd_S9 hXS, rd_S10 hXS, rd_S11 hXS, rd_S12 hXS, gP_S hXS hlS, wr_S1 hXS hlS, wr_S2 hXS hlS, wr_S3 hXS hlS, wr_S4 hXS hlS, wr_S5 hXS hlS, wr_S6 hXS hlS, wr_S7 hXS hlS, wr_S8 hXS hlS, wr_S9 hXS hlS, wr_S10 hXS hlS, wr_S11 hXS hlS, wr_S12 hXS hlS, gO_L hXL, gR_L5 hXL, al_L1 hXL, rd_L1 hXL, gP_L hXL hlL, wr_L1 hXL hlL, gO_R hXR, gR_R3 hXR, gR_R4 hXR, al_R1 hXR, al_R2 hXR, rd_R1 hXR, rd_R2 hXR, gP_R hXR hlR, wr_R1 hXR hlR, wr_R2 hXR hlR, gO_C hXC, gR_C1 hXC, al_C1 hXC, rd_C1 hXC, gP_C hXC hlC, wr_C1 hXC hlC, Nat.add_assoc, Nat.reduceAdd, sB_0, sB_c, u3_sB0, u3_sB, u3_s, u3_n, Nat.reduceLT, i3, Jl0, Jl1, Jl2, Jl3, Jl4, Jl5, Jl6, Jl7, Jl8, Jl9, Jl10, Jl11, Jl12, Jl13, Jl14, Jl15, Jl16, Jl17, Jl18, Jl19, Jl20, Jl22, Jl24, Jl28, Jl30, Jl31, Jl32, Jl35, Jl36, Jl37, Jl38, Jl39, Jl40, Jl48, Jl57, Jl59, Jl60, Jl61, Jl63, Jl64, Jl68, Jl69, Jl96, Jl97, Jl98, Jl99, Jl100, Jl122, Jl149, Jl150, Jl165, Jl255, Jl511, Jl512, Jl600, Jl610, Jl940, Jl968, Jl999, Jl1134, Jl1152, Jl2048, Jl4608, Jl9999, Jl99999, Jl100000, Jl147456, Jl12345, Jl1103515245, Jl100000000, Jlm1, Jlm2, J_add, J_sub, J_mul, J_lt, J_le, J_eq, J_ite, J_cl, ri_j, wi_j, b2i_z, b2i_o, b2i_zo, Int.cast_ofNat_Int, Int.natCast_zero, Int.natCast_one, if_true, if_false, ite_self, Int.le_refl, J_bit, J_or, J_neg, J_oN, Int.reduceEq, Int.reduceLT, Int.reduceLE, Int.reduceNeg, Int.reduceAdd, Int.reduceSub, Int.reduceMul, Int.reduceToNat, J_shl, J_shr, V_ite, true_or, or_true, nz_j, J_div, J_rem, Option.bind_some, Option.toList_some, Option.toList_none, List.cons_append, List.nil_append, Jl21, Jl23, Jl25, Jl74, Jl83, Jl288, Jl324, Jl1800, Jlm8]
      repeat (first | rw [if_neg (by omega)] | rw [if_pos (by omega)])
    · have t2 : tT B n (nx B n u) = 2 := by
        by_cases z : tT B n (nx B n u) = 2
        · exact z
        · rw [show lnW B n 0 (nx B n u) = if tT B n (nx B n u) = 2 then none else some (nx B n u) from rfl, if_neg z] at hp
          exact absurd hp (by simp)
      have x3 : X 3 = 3 := r3.trans (K3.mpr t2)
      have ei : (i : Int) = (nOf ln : Int) := by omega
      have en : i = nOf ln := by omega
      refine ⟨sA Z 22 X, ?_, ?_, ?_, fun j g1 g2 => ?_, by rw [sA_n (by decide)]; exact h6, NuF_sA (Or.inr rfl)⟩
      · rw [← ei]
        simp (disch := omega) only [b65_122, gO_k hXk, gP_k hXk hl, gR_k hX0, gR_k hX1, gR_k hX2, gR_k hX3, gR_k hX4, gR_k hX5, rdA_k hXn, wrA_k hXn hlNu, gO_k hXr.1, gO_S hXS, gR_S2 hXS, gR_S4 hXS, gR_S5 hXS, gR_S6 hXS, gR_S7 hXS, gR_S8 hXS, gR_S9 hXS, gR_S10 hXS, gR_S11 hXS, gR_S12 hXS, gR_S14 hXS, gR_S15 hXS, al_S1 hXS, al_S2 hXS, al_S3 hXS, al_S4 hXS, al_S5 hXS, al_S6 hXS, al_S7 hXS, al_S8 hXS, al_S9 hXS, al_S10 hXS, al_S11 hXS, al_S12 hXS, rd_S1 hXS, rd_S2 hXS, rd_S3 hXS, rd_S4 hXS, rd_S5 hXS, rd_S6 hXS, rd_S7 hXS, rd_S8 hXS, rd_S9 hXS, rd_S10 hXS, rd_S11 hXS, rd_S12 hXS, gP_S hXS hlS, wr_S1 hXS hlS, wr_S2 hXS hlS, wr_S3 hXS hlS, wr_S4 hXS hlS, wr_S5 hXS hlS, wr_S6 hXS hlS, wr_S7 hXS hlS, wr_S8 hXS hlS, wr_S9 hXS hlS, wr_S10 hXS hlS, wr_S11 hXS hlS, wr_S12 hXS hlS, gO_L hXL, gR_L5 hXL, al_L1 hXL, rd_L1 hXL, gP_L hXL hlL, wr_L1 hXL hlL, gO_R hXR, gR_R3 hXR, gR_R4 hXR, al_R1 hXR, al_R2 hXR, rd_R1 hXR, rd_R2 hXR, gP_R hXR hlR, wr_R1 hXR hlR, wr_R2 hXR hlR, gO_C hXC, gR_C1 hXC, al_C1 hXC, rd_C1 hXC, gP_C hXC hlC, wr_C1 hXC hlC, Nat.add_assoc, Nat.reduceAdd, sB_0, sB_c, u3_sB0, u3_sB, u3_s, u3_n, Nat.reduceLT, i3, x3, Jl0, Jl1, Jl2, Jl3, Jl4, Jl5, Jl6, Jl7, Jl8, Jl9, Jl10, Jl11, Jl12, Jl13, Jl14, Jl15, Jl16, Jl17, Jl18, Jl19, Jl20, Jl22, Jl24, Jl28, Jl30, Jl31, Jl32, Jl35, Jl36, Jl37, Jl38, Jl39, Jl40, Jl48, Jl57, Jl59, Jl60, Jl61, Jl63, Jl64, Jl68, Jl69, Jl96, Jl97, Jl98, Jl99, Jl100, Jl122, Jl149, Jl150, Jl165, Jl255, Jl511, Jl512, Jl600, Jl610, Jl940, Jl968, Jl999, Jl1134, Jl1152, Jl2048, Jl4608, Jl9999, Jl99999, Jl100000, Jl147456, Jl12345, Jl1103515245, Jl100000000, Jlm1, Jlm2, J_add, J_sub, J_mul, J_lt, J_le, J_eq, J_ite, J_cl, ri_j, wi_j, b2i_z, b2i_o, b2i_zo, Int.cast_ofNat_Int, Int.natCast_zero, Int.natCast_one, if_true, if_false, ite_self, Int.le_refl, J_bit, J_or, J_neg, J_oN, Int.reduceEq, Int.reduceLT, Int.reduceLE, Int.reduceNeg, Int.reduceAdd, Int.reduceSub, Int.reduceMul, Int.reduceToNat, J_shl, J_shr, V_ite, true_or, or_true, nz_j, J_div, J_rem, Option.bind_some, Option.toList_some, Option.toList_none, List.cons_append, List.nil_append, Jl21, Jl23, Jl25, Jl74, Jl83, Jl288, Jl324, Jl1800, Jlm8]
      · rw [sA_s, ← en, ← hu]
        exact ⟨⟨r1, r2, r3, r4⟩, r5⟩
      · rw [sA_n (by decide)]
        rfl
      · rw [sA_n (by decide)]
        exact hv j g1 (by omega)
  | succ k ih =>
    intro i Z u hik hR hu hv hvi h6
    have hR' := RX_nx hR
    obtain ⟨⟨r1, r2, r3, r4⟩, r5, r6⟩ := id hR'
    have hx := nxt_sp (E := E) (lo := lo) (d := d) (I := I) (Z := Z) (by omega) hX hl hb hB hn hR
    obtain ⟨X, hXX⟩ : ∃ X, X = nxX (Z 22) B (Z 22 1) (Z 22 2) := ⟨_, rfl⟩
    rw [← hXX] at r1 r2 r3 r4 r5 hx hR'
    obtain ⟨K1, K2, K3, K4, K5⟩ := tK_T B n (nx B n u)
    have kb : -1 ≤ X 3 ∧ X 3 ≤ 4 := by
      rw [r3]
      unfold tK
      repeat' (first | omega | split)
    have i3 : sA Z 22 X 22 3 = X 3 := by rw [sA_s]
    have i5 : sA Z 22 X 22 5 = X 5 := by rw [sA_s]
    have s1 : ex PG E lo d 65 40 [some (.ref c), some (.int (J (s))), some (.int (J (ln))), some (.int (J (i)))] [] (mj μ (sB I c 23 Z)) = ex PG E lo d 65 62 [some (.ref c), some (.int (J (s))), some (.int (J (ln))), some (.int (J (i)))] [] (mj μ (sB I c 23 (sA Z 22 X))) := by
      simp (disch := omega) only [b65_40, b65_44, b65_49, b65_55, gO_k hXk, gP_k hXk hl, gR_k hX0, gR_k hX1, gR_k hX2, gR_k hX3, gR_k hX4, gR_k hX5, rdA_k hXn, wrA_k hXn hlNu, gO_k hXr.1, gO_S hXS, gR_S2 hXS, gR_S4 hXS, gR_S5 hXS, gR_S6 hXS, gR_S7 hXS, gR_S8 hXS, gR_S9 hXS, gR_S10 hXS, gR_S11 hXS, gR_S12 hXS, gR_S14 hXS, gR_S15 hXS, al_S1 hXS, al_S2 hXS, al_S3 hXS, al_S4 hXS, al_S5 hXS, al_S6 hXS, al_S7 hXS, al_S8 hXS, al_S9 hXS, al_S10 hXS, al_S11 hXS, al_S12 hXS, rd_S1 hXS, rd_S2 hXS, rd_S3 hXS, rd_S4 hXS, rd_S5 hXS, rd_S6 hXS, rd_S7 hXS, rd_S8 hXS, rd_S9 hXS, rd_S10 hXS, rd_S11 hXS, rd_S12 hXS, gP_S hXS hlS, wr_S1 hXS hlS, wr_S2 hXS hlS, wr_S3 hXS hlS, wr_S4 hXS hlS, wr_S5 hXS hlS, wr_S6 hXS hlS, wr_S7 hXS hlS, wr_S8 hXS hlS, wr_S9 hXS hlS, wr_S10 hXS hlS, wr_S11 hXS hlS, wr_S12 hXS hlS, gO_L hXL, gR_L5 hXL, al_L1 hXL, rd_L1 hXL, gP_L hXL hlL, wr_L1 hXL hlL, gO_R hXR, gR_R3 hXR, gR_R4 hXR, al_R1 hXR, al_R2 hXR, rd_R1 hXR, rd_R2 hXR, gP_R hXR hlR, wr_R1 hXR hlR, wr_R2 hXR hlR, gO_C hXC, gR_C1 hXC, al_C1 hXC, rd_C1 hXC, gP_C hXC hlC, wr_C1 hXC hlC, Nat.add_assoc, Nat.reduceAdd, sB_0, sB_c, u3_sB0, u3_sB, u3_s, u3_n, Nat.reduceLT, s0, rdA_k k0', n0, e0, hx, Jl0, Jl1, Jl2, Jl3, Jl4, Jl5, Jl6, Jl7, Jl8, Jl9, Jl10, Jl11, Jl12, Jl13, Jl14, Jl15, Jl16, Jl17, Jl18, Jl19, Jl20, Jl22, Jl24, Jl28, Jl30, Jl31, Jl32, Jl35, Jl36, Jl37, Jl38, Jl39, Jl40, Jl48, Jl57, Jl59, Jl60, Jl61, Jl63, Jl64, Jl68, Jl69, Jl96, Jl97, Jl98, Jl99, Jl100, Jl122, Jl149, Jl150, Jl165, Jl255, Jl511, Jl512, Jl600, Jl610, Jl940, Jl968, Jl999, Jl1134, Jl1152, Jl2048, Jl4608, Jl9999, Jl99999, Jl100000, Jl147456, Jl12345, Jl1103515245, Jl100000000, Jlm1, Jlm2, J_add, J_sub, J_mul, J_lt, J_le, J_eq, J_ite, J_cl, ri_j, wi_j, b2i_z, b2i_o, b2i_zo, Int.cast_ofNat_Int, Int.natCast_zero, Int.natCast_one, if_true, if_false, ite_self, Int.le_refl, J_bit, J_or, J_neg, J_oN, Int.reduceEq, Int.reduceLT, Int.reduceLE, Int.reduceNeg, Int.reduceAdd, Int.reduceSub, Int.reduceMul, Int.reduceToNat, J_shl, J_shr, V_ite, true_or, or_true, nz_j, J_div, J_rem, Option.bind_some, Option.toList_some, Option.toList_none, List.cons_append, List.nil_append, Jl21, Jl23, Jl25, Jl74, Jl83, Jl288, Jl324, Jl1800, Jlm8]
      repeat (first | rw [if_neg (by omega)] | rw [if_pos (by omega)])
    rw [s1]
    by_cases t1 : tT B n (nx B n u) = 1
    · have x3 : X 3 = 2 := r3.trans (K2.mpr t1)
      have x5 : X 5 = nv B n (nx B n u) := r5 t1
      have vb := nv_b t1
      have v1 : nv B n (nx B n u) = vv B n (nx B n w) i := by
        rw [hu]
        unfold vv
        rw [Int.toNat_natCast]
      -- the number is laid down, then judged
      obtain ⟨Z1, hZ1⟩ : ∃ Z1, Z1 = u3 (sA Z 22 X) 1 i (X 5) := ⟨_, rfl⟩
      have z1v : ∀ j, 0 ≤ j → j ≤ (i : Int) → Z1 1 j = vv B n (nx B n w) j ∧ i32 (Z1 1 j) := fun j g1 g2 => by
        rw [hZ1]
        by_cases cj : j = i
        · rw [cj, u3_s, x5]
          exact ⟨v1, by unfold i32; omega⟩
        · rw [u3_n (by omega), sA_n (by decide)]
          exact ⟨hv j g1 (by omega), hvi j g1 (by omega)⟩
      have z1n : NuF Z Z1 := by rw [hZ1]; exact NuF_t (NuF_sA (Or.inr rfl)) NuF_u3
      have z16 : Z1 0 = Z 0 := by rw [hZ1, u3_c (by decide), sA_n (by decide)]
      have z122 : Z1 22 = X := by rw [hZ1, u3_c (by decide), sA_s]
      have hcb := cb_sp (E := E) (lo := lo) (d := d) (I := I) (Z := Z1) (ln := ln) (i := i) (by omega) hX hl hSt hln ⟨by omega, by omega⟩ (fun j g1 g2 => (z1v j g1 g2).2)
      rw [cbQ_c (V' := vv B n (nx B n w)) (by omega) (fun j g1 g2 => (z1v j g1 g2).1)] at hcb
      have hnt := note_sp (E := E) (lo := lo) (d := d) (I := I) (Z := Z1) (k := 2) (p := X 4) (by omega) hX hl (by rw [z16]; exact h6)
      have i4 : Z1 22 4 = X 4 := by rw [z122]
      obtain ⟨Z2, hZ2⟩ : ∃ Z2, Z2 = if cbQ ln i (vv B n (nx B n w)) = true then Z1 else ntZ Z1 2 (X 4) := ⟨_, rfl⟩
      have s2 : ex PG E lo d 65 62 [some (.ref c), some (.int (J (s))), some (.int (J (ln))), some (.int (J (i)))] [] (mj μ (sB I c 23 (sA Z 22 X))) = ex PG E lo d 65 40 [some (.ref c), some (.int (J (s))), some (.int (J (ln))), some (.int (J ((i + 1))))] [] (mj μ (sB I c 23 Z2)) := by
        rw [hZ2]
        have s3 : ex PG E lo d 65 62 [some (.ref c), some (.int (J (s))), some (.int (J (ln))), some (.int (J (i)))] [] (mj μ (sB I c 23 (sA Z 22 X))) = ex PG E lo d 65 88 [some (.ref c), some (.int (J (s))), some (.int (J (ln))), some (.int (J (i)))] [] (mj μ (sB I c 23 Z1)) := by
          rw [hZ1]
          simp (disch := omega) only [b65_62, b65_75, gO_k hXk, gP_k hXk hl, gR_k hX0, gR_k hX1, gR_k hX2, gR_k hX3, gR_k hX4, gR_k hX5, rdA_k hXn, wrA_k hXn hlNu, gO_k hXr.1, gO_S hXS, gR_S2 hXS, gR_S4 hXS, gR_S5 hXS, gR_S6 hXS, gR_S7 hXS, gR_S8 hXS, gR_S9 hXS, gR_S10 hXS, gR_S11 hXS, gR_S12 hXS, gR_S14 hXS, gR_S15 hXS, al_S1 hXS, al_S2 hXS, al_S3 hXS, al_S4 hXS, al_S5 hXS, al_S6 hXS, al_S7 hXS, al_S8 hXS, al_S9 hXS, al_S10 hXS, al_S11 hXS, al_S12 hXS, rd_S1 hXS, rd_S2 hXS, rd_S3 hXS, rd_S4 hXS, rd_S5 hXS, rd_S6 hXS, rd_S7 hXS, rd_S8 hXS, rd_S9 hXS, rd_S10 hXS, rd_S11 hXS, rd_S12 hXS, gP_S hXS hlS, wr_S1 hXS hlS, wr_S2 hXS hlS, wr_S3 hXS hlS, wr_S4 hXS hlS, wr_S5 hXS hlS, wr_S6 hXS hlS, wr_S7 hXS hlS, wr_S8 hXS hlS, wr_S9 hXS hlS, wr_S10 hXS hlS, wr_S11 hXS hlS, wr_S12 hXS hlS, gO_L hXL, gR_L5 hXL, al_L1 hXL, rd_L1 hXL, gP_L hXL hlL, wr_L1 hXL hlL, gO_R hXR, gR_R3 hXR, gR_R4 hXR, al_R1 hXR, al_R2 hXR, rd_R1 hXR, rd_R2 hXR, gP_R hXR hlR, wr_R1 hXR hlR, wr_R2 hXR hlR, gO_C hXC, gR_C1 hXC, al_C1 hXC, rd_C1 hXC, gP_C hXC hlC, wr_C1 hXC hlC, Nat.add_assoc, Nat.reduceAdd, sB_0, sB_c, u3_sB0, u3_sB, u3_s, u3_n, Nat.reduceLT, i3, x3, i5, Jl0, Jl1, Jl2, Jl3, Jl4, Jl5, Jl6, Jl7, Jl8, Jl9, Jl10, Jl11, Jl12, Jl13, Jl14, Jl15, Jl16, Jl17, Jl18, Jl19, Jl20, Jl22, Jl24, Jl28, Jl30, Jl31, Jl32, Jl35, Jl36, Jl37, Jl38, Jl39, Jl40, Jl48, Jl57, Jl59, Jl60, Jl61, Jl63, Jl64, Jl68, Jl69, Jl96, Jl97, Jl98, Jl99, Jl100, Jl122, Jl149, Jl150, Jl165, Jl255, Jl511, Jl512, Jl600, Jl610, Jl940, Jl968, Jl999, Jl1134, Jl1152, Jl2048, Jl4608, Jl9999, Jl99999, Jl100000, Jl147456, Jl12345, Jl1103515245, Jl100000000, Jlm1, Jlm2, J_add, J_sub, J_mul, J_lt, J_le, J_eq, J_ite, J_cl, ri_j, wi_j, b2i_z, b2i_o, b2i_zo, Int.cast_ofNat_Int, Int.natCast_zero, Int.natCast_one, if_true, if_false, ite_self, Int.le_refl, J_bit, J_or, J_neg, J_oN, Int.reduceEq, Int.reduceLT, Int.reduceLE, Int.reduceNeg, Int.reduceAdd, Int.reduceSub, Int.reduceMul, Int.reduceToNat, J_shl, J_shr, V_ite, true_or, or_true, nz_j, J_div, J_rem, Option.bind_some, Option.toList_some, Option.toList_none, List.cons_append, List.nil_append, Jl21, Jl23, Jl25, Jl74, Jl83, Jl288, Jl324, Jl1800, Jlm8]
        rw [s3]
        cases hcc : cbQ ln i (vv B n (nx B n w)) with
        | false =>
          rw [hcc] at hcb
          simp (disch := omega) only [b65_88, b65_94, b65_97, b65_109, gO_k hXk, gP_k hXk hl, gR_k hX0, gR_k hX1, gR_k hX2, gR_k hX3, gR_k hX4, gR_k hX5, rdA_k hXn, wrA_k hXn hlNu, gO_k hXr.1, gO_S hXS, gR_S2 hXS, gR_S4 hXS, gR_S5 hXS, gR_S6 hXS, gR_S7 hXS, gR_S8 hXS, gR_S9 hXS, gR_S10 hXS, gR_S11 hXS, gR_S12 hXS, gR_S14 hXS, gR_S15 hXS, al_S1 hXS, al_S2 hXS, al_S3 hXS, al_S4 hXS, al_S5 hXS, al_S6 hXS, al_S7 hXS, al_S8 hXS, al_S9 hXS, al_S10 hXS, al_S11 hXS, al_S12 hXS, rd_S1 hXS, rd_S2 hXS, rd_S3 hXS, rd_S4 hXS, rd_S5 hXS, rd_S6 hXS, rd_S7 hXS, rd_S8 hXS, rd_S9 hXS, rd_S10 hXS, rd_S11 hXS, rd_S12 hXS, gP_S hXS hlS, wr_S1 hXS hlS, wr_S2 hXS hlS, wr_S3 hXS hlS, wr_S4 hXS hlS, wr_S5 hXS hlS, wr_S6 hXS hlS, wr_S7 hXS hlS, wr_S8 hXS hlS, wr_S9 hXS hlS, wr_S10 hXS hlS, wr_S11 hXS hlS, wr_S12 hXS hlS, gO_L hXL, gR_L5 hXL, al_L1 hXL, rd_L1 hXL, gP_L hXL hlL, wr_L1 hXL hlL, gO_R hXR, gR_R3 hXR, gR_R4 hXR, al_R1 hXR, al_R2 hXR, rd_R1 hXR, rd_R2 hXR, gP_R hXR hlR, wr_R1 hXR hlR, wr_R2 hXR hlR, gO_C hXC, gR_C1 hXC, al_C1 hXC, rd_C1 hXC, gP_C hXC hlC, wr_C1 hXC hlC, Nat.add_assoc, Nat.reduceAdd, sB_0, sB_c, u3_sB0, u3_sB, u3_s, u3_n, Nat.reduceLT, hcb, b2i_f, i4, hnt, Bool.false_eq_true, Jl0, Jl1, Jl2, Jl3, Jl4, Jl5, Jl6, Jl7, Jl8, Jl9, Jl10, Jl11, Jl12, Jl13, Jl14, Jl15, Jl16, Jl17, Jl18, Jl19, Jl20, Jl22, Jl24, Jl28, Jl30, Jl31, Jl32, Jl35, Jl36, Jl37, Jl38, Jl39, Jl40, Jl48, Jl57, Jl59, Jl60, Jl61, Jl63, Jl64, Jl68, Jl69, Jl96, Jl97, Jl98, Jl99, Jl100, Jl122, Jl149, Jl150, Jl165, Jl255, Jl511, Jl512, Jl600, Jl610, Jl940, Jl968, Jl999, Jl1134, Jl1152, Jl2048, Jl4608, Jl9999, Jl99999, Jl100000, Jl147456, Jl12345, Jl1103515245, Jl100000000, Jlm1, Jlm2, J_add, J_sub, J_mul, J_lt, J_le, J_eq, J_ite, J_cl, ri_j, wi_j, b2i_z, b2i_o, b2i_zo, Int.cast_ofNat_Int, Int.natCast_zero, Int.natCast_one, if_true, if_false, ite_self, Int.le_refl, J_bit, J_or, J_neg, J_oN, Int.reduceEq, Int.reduceLT, Int.reduceLE, Int.reduceNeg, Int.reduceAdd, Int.reduceSub, Int.reduceMul, Int.reduceToNat, J_shl, J_shr, V_ite, true_or, or_true, nz_j, J_div, J_rem, Option.bind_some, Option.toList_some, Option.toList_none, List.cons_append, List.nil_append, Jl21, Jl23, Jl25, Jl74, Jl83, Jl288, Jl324, Jl1800, Jlm8]
        | true =>
          rw [hcc] at hcb
          simp (disch := omega) only [b65_88, b65_94, b65_109, gO_k hXk, gP_k hXk hl, gR_k hX0, gR_k hX1, gR_k hX2, gR_k hX3, gR_k hX4, gR_k hX5, rdA_k hXn, wrA_k hXn hlNu, gO_k hXr.1, gO_S hXS, gR_S2 hXS, gR_S4 hXS, gR_S5 hXS, gR_S6 hXS, gR_S7 hXS, gR_S8 hXS, gR_S9 hXS, gR_S10 hXS, gR_S11 hXS, gR_S12 hXS, gR_S14 hXS, gR_S15 hXS, al_S1 hXS, al_S2 hXS, al_S3 hXS, al_S4 hXS, al_S5 hXS, al_S6 hXS, al_S7 hXS, al_S8 hXS, al_S9 hXS, al_S10 hXS, al_S11 hXS, al_S12 hXS, rd_S1 hXS, rd_S2 hXS, rd_S3 hXS, rd_S4 hXS, rd_S5 hXS, rd_S6 hXS, rd_S7 hXS, rd_S8 hXS, rd_S9 hXS, rd_S10 hXS, rd_S11 hXS, rd_S12 hXS, gP_S hXS hlS, wr_S1 hXS hlS, wr_S2 hXS hlS, wr_S3 hXS hlS, wr_S4 hXS hlS, wr_S5 hXS hlS, wr_S6 hXS hlS, wr_S7 hXS hlS, wr_S8 hXS hlS, wr_S9 hXS hlS, wr_S10 hXS hlS, wr_S11 hXS hlS, wr_S12 hXS hlS, gO_L hXL, gR_L5 hXL, al_L1 hXL, rd_L1 hXL, gP_L hXL hlL, wr_L1 hXL hlL, gO_R hXR, gR_R3 hXR, gR_R4 hXR, al_R1 hXR, al_R2 hXR, rd_R1 hXR, rd_R2 hXR, gP_R hXR hlR, wr_R1 hXR hlR, wr_R2 hXR hlR, gO_C hXC, gR_C1 hXC, al_C1 hXC, rd_C1 hXC, gP_C hXC hlC, wr_C1 hXC hlC, Nat.add_assoc, Nat.reduceAdd, sB_0, sB_c, u3_sB0, u3_sB, u3_s, u3_n, Nat.reduceLT, hcb, b2i_t, Jl0, Jl1, Jl2, Jl3, Jl4, Jl5, Jl6, Jl7, Jl8, Jl9, Jl10, Jl11, Jl12, Jl13, Jl14, Jl15, Jl16, Jl17, Jl18, Jl19, Jl20, Jl22, Jl24, Jl28, Jl30, Jl31, Jl32, Jl35, Jl36, Jl37, Jl38, Jl39, Jl40, Jl48, Jl57, Jl59, Jl60, Jl61, Jl63, Jl64, Jl68, Jl69, Jl96, Jl97, Jl98, Jl99, Jl100, Jl122, Jl149, Jl150, Jl165, Jl255, Jl511, Jl512, Jl600, Jl610, Jl940, Jl968, Jl999, Jl1134, Jl1152, Jl2048, Jl4608, Jl9999, Jl99999, Jl100000, Jl147456, Jl12345, Jl1103515245, Jl100000000, Jlm1, Jlm2, J_add, J_sub, J_mul, J_lt, J_le, J_eq, J_ite, J_cl, ri_j, wi_j, b2i_z, b2i_o, b2i_zo, Int.cast_ofNat_Int, Int.natCast_zero, Int.natCast_one, if_true, if_false, ite_self, Int.le_refl, J_bit, J_or, J_neg, J_oN, Int.reduceEq, Int.reduceLT, Int.reduceLE, Int.reduceNeg, Int.reduceAdd, Int.reduceSub, Int.reduceMul, Int.reduceToNat, J_shl, J_shr, V_ite, true_or, or_true, nz_j, J_div, J_rem, Option.bind_some, Option.toList_some, Option.toList_none, List.cons_append, List.nil_append, Jl21, Jl23, Jl25, Jl74, Jl83, Jl288, Jl324, Jl1800, Jlm8]
      have z2q : (Z2 0 6, Z2 0 7) = cq (cbQ ln i (vv B n (nx B n w))) (Z 0 6, Z 0 7) (nx B n u) := by
        rw [hZ2]
        unfold cq
        cases hcc : cbQ ln i (vv B n (nx B n w)) with
        | false =>
          rw [if_neg (by decide), ntZ_q, z16, r4]
          by_cases q : Z 0 6 = 0
          · rw [if_pos q, if_pos ⟨q, rfl⟩]
          · rw [if_neg q, if_neg (fun z => q z.1)]
        | true => rw [if_pos rfl, if_neg (by simp), z16]
      have z2n : NuF Z Z2 := by
        rw [hZ2]
        split
        · exact z1n
        · exact NuF_t z1n NuF_nt
      have z21 : Z2 1 = Z1 1 := by
        rw [hZ2]
        split
        · rfl
        · exact ntZ_c (by decide)
      have z222 : Z2 22 = X := by
        rw [hZ2]
        split
        · exact z122
        · rw [ntZ_c (by decide), z122]
      have z26 : i32 (Z2 0 6) := by
        have e := congrArg Prod.fst z2q
        dsimp only at e
        rw [e]
        unfold cq
        split
        · unfold i32; dsimp only; omega
        · exact h6
      have ih' := ih (i + 1) Z2 (nx B n u) (by omega) (by rw [z222]; exact hR') (by rw [hu]; rfl) (fun j g1 g2 => by rw [z21]; exact (z1v j g1 (by omega)).1) (fun j g1 g2 => by rw [z21]; exact (z1v j g1 (by omega)).2) z26
      have ec : (((i + 1 : Nat) : Int)) = (i : Int) + 1 := by omega
      rw [ec] at ih'
      refine ⟨fun p hp => ?_, fun hp => ?_⟩
      · rw [show lnW B n (k + 1) (nx B n u) = if tT B n (nx B n u) = 1 then lnW B n k (nx B n (nx B n u)) else some (nx B n u) from rfl, if_pos t1] at hp
        obtain ⟨Z', a1, a2, a3⟩ := ih'.1 p hp
        exact ⟨Z', s2.trans a1, a2, NuF_t z2n a3⟩
      · rw [show lnW B n (k + 1) (nx B n u) = if tT B n (nx B n u) = 1 then lnW B n k (nx B n (nx B n u)) else some (nx B n u) from rfl, if_pos t1] at hp
        obtain ⟨Z', a1, a2, a3, a4, a5, a6⟩ := ih'.2 hp
        refine ⟨Z', s2.trans a1, a2, ?_, a4, a5, NuF_t z2n a6⟩
        rw [a3, z2q]
        rfl
    · have x3 : ¬ X 3 = 2 := fun z => t1 (K2.mp (r3.symm.trans z))
      refine ⟨fun p hp => ?_, fun hp => ?_⟩
      · rw [show lnW B n (k + 1) (nx B n u) = if tT B n (nx B n u) = 1 then lnW B n k (nx B n (nx B n u)) else some (nx B n u) from rfl, if_neg t1] at hp
        injection hp with hp
        refine ⟨sA Z 22 X, ?_, by rw [sA_s, r4, hp], NuF_sA (Or.inr rfl)⟩
        simp (disch := omega) only [b65_62, b65_73, gO_k hXk, gP_k hXk hl, gR_k hX0, gR_k hX1, gR_k hX2, gR_k hX3, gR_k hX4, gR_k hX5, rdA_k hXn, wrA_k hXn hlNu, gO_k hXr.1, gO_S hXS, gR_S2 hXS, gR_S4 hXS, gR_S5 hXS, gR_S6 hXS, gR_S7 hXS, gR_S8 hXS, gR_S9 hXS, gR_S10 hXS, gR_S11 hXS, gR_S12 hXS, gR_S14 hXS, gR_S15 hXS, al_S1 hXS, al_S2 hXS, al_S3 hXS, al_S4 hXS, al_S5 hXS, al_S6 hXS, al_S7 hXS, al_S8 hXS, al_S9 hXS, al_S10 hXS, al_S11 hXS, al_S12 hXS, rd_S1 hXS, rd_S2 hXS, rd_S3 hXS, rd_S4 hXS, rd_S5 hXS, rd_S6 hXS, rd_S7 hXS, rd_S8 hXS, rd_S9 hXS, rd_S10 hXS, rd_S11 hXS, rd_S12 hXS, gP_S hXS hlS, wr_S1 hXS hlS, wr_S2 hXS hlS, wr_S3 hXS hlS, wr_S4 hXS hlS, wr_S5 hXS hlS, wr_S6 hXS hlS, wr_S7 hXS hlS, wr_S8 hXS hlS, wr_S9 hXS hlS, wr_S10 hXS hlS, wr_S11 hXS hlS, wr_S12 hXS hlS, gO_L hXL, gR_L5 hXL, al_L1 hXL, rd_L1 hXL, gP_L hXL hlL, wr_L1 hXL hlL, gO_R hXR, gR_R3 hXR, gR_R4 hXR, al_R1 hXR, al_R2 hXR, rd_R1 hXR, rd_R2 hXR, gP_R hXR hlR, wr_R1 hXR hlR, wr_R2 hXR hlR, gO_C hXC, gR_C1 hXC, al_C1 hXC, rd_C1 hXC, gP_C hXC hlC, wr_C1 hXC hlC, Nat.add_assoc, Nat.reduceAdd, sB_0, sB_c, u3_sB0, u3_sB, u3_s, u3_n, Nat.reduceLT, i3, Jl0, Jl1, Jl2, Jl3, Jl4, Jl5, Jl6, Jl7, Jl8, Jl9, Jl10, Jl11, Jl12, Jl13, Jl14, Jl15, Jl16, Jl17, Jl18, Jl19, Jl20, Jl22, Jl24, Jl28, Jl30, Jl31, Jl32, Jl35, Jl36, Jl37, Jl38, Jl39, Jl40, Jl48, Jl57, Jl59, Jl60, Jl61, Jl63, Jl64, Jl68, Jl69, Jl96, Jl97, Jl98, Jl99, Jl100, Jl122, Jl149, Jl150, Jl165, Jl255, Jl511, Jl512, Jl600, Jl610, Jl940, Jl968, Jl999, Jl1134, Jl1152, Jl2048, Jl4608, Jl9999, Jl99999, Jl100000, Jl147456, Jl12345, Jl1103515245, Jl100000000, Jlm1, Jlm2, J_add, J_sub, J_mul, J_lt, J_le, J_eq, J_ite, J_cl, ri_j, wi_j, b2i_z, b2i_o, b2i_zo, Int.cast_ofNat_Int, Int.natCast_zero, Int.natCast_one, if_true, if_false, ite_self, Int.le_refl, J_bit, J_or, J_neg, J_oN, Int.reduceEq, Int.reduceLT, Int.reduceLE, Int.reduceNeg, Int.reduceAdd, Int.reduceSub, Int.reduceMul, Int.reduceToNat, J_shl, J_shr, V_ite, true_or, or_true, nz_j, J_div, J_rem, Option.bind_some, Option.toList_some, Option.toList_none, List.cons_append, List.nil_append, Jl21, Jl23, Jl25, Jl74, Jl83, Jl288, Jl324, Jl1800, Jlm8]
        repeat (first | rw [if_neg (by omega)] | rw [if_pos (by omega)])
      · rw [show lnW B n (k + 1) (nx B n u) = if tT B n (nx B n u) = 1 then lnW B n k (nx B n (nx B n u)) else some (nx B n u) from rfl, if_neg t1] at hp
        exact absurd hp (by simp)
end LINE
