/-! THE LAW: text, by both -/
theorem agD_r {s : Int} {S S1 S' : Nat → Int → Int} (hs : 0 ≤ s ∧ s < 4) (h : ∀ f, f < szT s → S1 f = S' f) (ha : agD s S S1) : agD s S S' := by
  have hs' : s = 0 ∨ s = 1 ∨ s = 2 ∨ s = 3 := by omega
  rcases hs' with rfl | rfl | rfl | rfl
  · exact ⟨fun _ => agS_c (fun _ _ => rfl) h (ha.1 rfl), fun z => absurd z (by decide), fun z => absurd z (by decide), fun z => absurd z (by decide)⟩
  · exact ⟨fun z => absurd z (by decide), fun _ => agL_c (fun _ _ => rfl) h (ha.2.1 rfl), fun z => absurd z (by decide), fun z => absurd z (by decide)⟩
  · exact ⟨fun z => absurd z (by decide), fun z => absurd z (by decide), fun _ => agR_c (fun _ _ => rfl) h (ha.2.2.1 rfl), fun z => absurd z (by decide)⟩
  · exact ⟨fun z => absurd z (by decide), fun z => absurd z (by decide), fun z => absurd z (by decide), fun _ => agC_c (fun _ _ => rfl) h (ha.2.2.2 rfl)⟩
section LAW
variable {E : (Nat → Value) × (Nat → Nat)} {lo b L d : Nat} {μ : rM} {I : Nat → Int → Int} {i : Int}
theorem op_text (hd : 20 ≤ d) (h : INV E lo b L μ I) (hi : 0 ≤ i ∧ i + 7 ≤ (L : Int)) : STP E lo b L d i (ex PG E lo d 312 270 [some (.ref b), some (.ref lo), some (.ref ((lo + 146))), some (.int (J (i)))] [] (mj μ I)) := by
  have hl2 := h.2.2.1.2.2.1
  have hbl := h.2.2.1.1
  have hkb := h.2.2.1.2.1
  have a1 := h.b32 (j := i + 1) (by omega)
  have a2 := h.b32 (j := i + 2) (by omega)
  have kO := h.1.o.1
  have kM := h.1.M146.1
  have hT := h.2.2.2.2.1
  obtain ⟨t1, t1a, t1b⟩ := hT.2.1
  obtain ⟨s, eS⟩ : ∃ s, s = I b (i + 1) := ⟨_, rfl⟩
  obtain ⟨a, eA⟩ : ∃ a, a = I b (i + 2) := ⟨_, rfl⟩
  rw [← eS] at a1
  rw [← eA] at a2
  have hcn : ∀ s, 0 ≤ s → s < 4 → I (lo + 1 + 2) s = I (lo + 147) s := fun s z1 z2 => (h.cnt ⟨z1, z2⟩).1
  obtain ⟨v, I1, D, e1, hD, g1, gl1, gc⟩ := c_text (E := E) (lo := lo) (d := d) (I := I) (s := s) (a := a) (n := I (lo + 147) 4) (B := fun j => I (lo + 147) (10 + j)) (by omega) h.1 h.2.1 (fun s z1 z2 => by rw [hcn s z1 z2]; exact (h.cnt ⟨z1, z2⟩).2) ⟨t1a, t1b⟩ t1 hT.2.2.2.1 ⟨a1, a2⟩
  have n1 : I1 (lo + 147) = I (lo + 147) := g1 _ (by omega) (by omega) (by omega) (by omega)
  have n8 : I1 (lo + 148) = I (lo + 148) := g1 _ (by omega) (by omega) (by omega) (by omega)
  have n0 : rws I1 (lo + 146) 1 = I (lo + 147) := n1
  have nt : tpB (rws I1 (lo + 146)) = fun j => I (lo + 147) (10 + j) := by
    funext j
    show rws I1 (lo + 146) 1 (10 + j) = _
    rw [n0]
  obtain ⟨v', M1, e2, m2, gq⟩ := q_text (E := E) (lo := lo) (d := d) (μ := μ) (I := I1) (M := rws I1 (lo + 146)) (s := s) (a := a) (D := D) (by omega) h.1.M146 (by omega) (fun s z1 z2 => by rw [n0]; exact (h.cnt ⟨z1, z2⟩).2) (by rw [n0]; exact ⟨t1a, t1b⟩) (fun j z1 z2 => by rw [nt]; exact (hT.2.2.2.1 j z1 z2).2) ⟨a1, a2⟩ hD
  rw [show sB I1 (lo + 146) 26 (rws I1 (lo + 146)) = I1 from sB_id] at e2
  rw [nt] at gq
  unfold txOK txK tx5 at gq
  simp only [n0] at gq
  unfold okC kC at gc
  obtain ⟨R, eR⟩ : ∃ R, R = txR s (fun j => I (lo + 147) (10 + j)) (I (lo + 147) 4) D := ⟨_, rfl⟩
  rw [← eR] at gc gq
  have ok : ((0 ≤ s ∧ s < 4) ∧ (if a = -1 then I (lo + 1 + 2) s < 2 else 0 ≤ a ∧ a < I (lo + 1 + 2) s)) ↔ ((0 ≤ s ∧ s < 4) ∧ (if a = -1 then I (lo + 147) s < 2 else 0 ≤ a ∧ a < I (lo + 147) s)) := by
    constructor
    · rintro ⟨z1, z2⟩
      rw [hcn s z1.1 z1.2] at z2
      exact ⟨z1, z2⟩
    · rintro ⟨z1, z2⟩
      rw [← hcn s z1.1 z1.2] at z2
      exact ⟨z1, z2⟩
  rw [ok] at gc
  have kb1 : I1 b = I b := g1 _ (by omega) (by omega) (by omega) (by omega)
  have g7 : sB I1 (lo + 146) 26 M1 (lo + 147) = M1 1 := sB_c (c := 1) (by omega)
  have g8 : sB I1 (lo + 146) 26 M1 (lo + 148) = M1 2 := sB_c (c := 2) (by omega)
  have gI : ∀ x, x < lo + 146 → sB I1 (lo + 146) 26 M1 x = I1 x := fun x hx => sB_n (by omega)
  have fr : ∀ x, ¬ (lo + 1 ≤ x ∧ x < lo + 48) → ¬ (lo + 49 ≤ x ∧ x < lo + 72) → ¬ (lo + 146 ≤ x ∧ x < lo + 172) → sB I1 (lo + 146) 26 M1 x = I x := fun x z1 z2 z3 => by
    rw [sB_n (by omega)]
    exact g1 x (by omega) (by omega) (by omega) z2
  have m2' : M1 2 = I (lo + 148) := m2.trans n8
  have both : v = v' ∧ TRl (sB I1 (lo + 146) 26 M1) (lo + 1) (M1 1) ∧ ∀ j, 1152 ≤ j → M1 1 j = I (lo + 147) j := by
    rcases gc with ⟨c1, c2, c3, c4, c5⟩ | ⟨c1, c2, c3, c4, c5, c6⟩ | ⟨c1, c2, c3, c4, c5, c6, c7, c8⟩
    · rcases gq with ⟨q1, q2, q3⟩ | ⟨q1, _⟩ | ⟨q1, _⟩
      · replace q3 : ∀ j, M1 1 j = if j = 4 then 0 else if j = 5 then 0 else if j = 6 then -1 else I (lo + 147) j := fun j => congrFun q3 j
        refine ⟨c2.trans q2.symm, ?_, fun j hj => by rw [q3, if_neg (by omega), if_neg (by omega), if_neg (by omega)]⟩
        refine TRl_h hT (fun y z1 z2 => ?_) (fun j z1 z2 z3 => by rw [q3, if_neg (by omega), if_neg (by omega), if_neg (by omega)]) ?_ ?_ (fun j z1 z2 => ?_)
        · rw [gI _ (by omega)]
          by_cases cy : y = lo + 1 + 2
          · rw [cy]; exact c4
          · by_cases cz : lo + 8 ≤ y
            · exact c5 y cz (by omega)
            · exact g1 y (by omega) cy (by omega) (by omega)
        · rw [gI _ (by omega), q3, if_pos rfl, gl1]
          omega
        · rw [gI _ (by omega), q3, q3, if_neg (by omega), if_pos rfl, if_neg (by omega), if_neg (by omega), if_pos rfl]
          exact c3
        · dsimp only
          rw [gI _ (by omega), g1 _ (by omega) (by omega) (by omega) (by omega), q3, if_neg (by omega), if_neg (by omega), if_neg (by omega)]
          exact hT.2.2.2.1 j z1 z2
      · exact absurd q1 c1
      · exact absurd q1 c1
    · rcases gq with ⟨q1, _⟩ | ⟨q1, q2, q3, q4⟩ | ⟨q1, q2, _⟩
      · exact absurd c1 q1
      · replace q4 : ∀ j, M1 1 j = if j = 4 then 0 else if j = 5 then R.1.1 else if j = 6 then R.1.2 else I (lo + 147) j := fun j => congrFun q4 j
        refine ⟨c3.trans q3.symm, ?_, fun j hj => by rw [q4, if_neg (by omega), if_neg (by omega), if_neg (by omega)]⟩
        refine TRl_h hT (fun y z1 z2 => ?_) (fun j z1 z2 z3 => by rw [q4, if_neg (by omega), if_neg (by omega), if_neg (by omega)]) ?_ ?_ (fun j z1 z2 => ?_)
        · rw [gI _ (by omega)]
          by_cases cy : y = lo + 1 + 2
          · rw [cy]; exact c5
          · by_cases cz : lo + 8 ≤ y
            · exact c6 y cz (by omega)
            · exact g1 y (by omega) cy (by omega) (by omega)
        · rw [gI _ (by omega), q4, if_pos rfl, gl1]
          omega
        · rw [gI _ (by omega), q4, q4, if_neg (by omega), if_pos rfl, if_neg (by omega), if_neg (by omega), if_pos rfl]
          exact c4
        · dsimp only
          rw [gI _ (by omega), g1 _ (by omega) (by omega) (by omega) (by omega), q4, if_neg (by omega), if_neg (by omega), if_neg (by omega)]
          exact hT.2.2.2.1 j z1 z2
      · exact absurd q2 c2
    · rcases gq with ⟨q1, _⟩ | ⟨q1, q2, _⟩ | ⟨q1, q2, q3, q4, X, q5, q6⟩
      · exact absurd c1 q1
      · exact absurd c2 q2
      · have hcs := hcn s c1.1.1 c1.1.2
        have vv : v = v' := by
          rw [c3, q3, hcs]
        subst vv
        have plb : 610 ≤ plQ s v ∧ plQ s v + szQ s ≤ 1152 := by
          have nS := (h.cnt c1.1).2
          have v2 : 0 ≤ v ∧ v < 2 := by
            have z := c1.2
            by_cases c : a = -1
            · rw [if_pos c] at q3 z
              omega
            · rw [if_neg c] at q3 z
              omega
          have hs' : s = 0 ∨ s = 1 ∨ s = 2 ∨ s = 3 := by have := c1.1; omega
          unfold plQ szQ
          rcases hs' with e | e | e | e <;> rw [e] <;> simp <;> omega
        have s4 := c1.1.2
        refine ⟨rfl, ?_, fun j hj => by rw [q4 j (by omega), if_neg (by omega), if_neg (by omega), if_neg (by omega), if_neg (by omega)]⟩
        refine TRl_t (s := s) (a := a) (v := v) (X := X) (D := R.2) hT c1.1 q3 c1.2 ⟨by rw [gI _ (by omega)]; exact gl1, by rw [gI _ (by omega)]; exact c4.1, by rw [gI _ (by omega)]; exact c4.2⟩ (by rw [gI _ (by omega)]; exact g1 _ (by omega) (by omega) (by omega) (by omega)) (fun j => by rw [gI _ (by omega), c5 j, hcs]) (fun x z1 z2 z3 => by rw [gI _ (by omega)]; exact c6 x z1 z2 z3) ?_ c8 (fun e => by rw [eR] at c2 ⊢; exact txR_cl e c2) (fun j _ z => q4 j z) q5 q6
        have v2 : 0 ≤ v ∧ v < 2 := by
          have nS := (h.cnt c1.1).2
          have z := c1.2
          by_cases c : a = -1
          · rw [if_pos c] at q3 z
            omega
          · rw [if_neg c] at q3 z
            omega
        have ab := adT_b (lo := lo) c1.1 v2
        refine agD_r c1.1 (fun f hf => ?_) c7
        exact (gI _ (by omega)).symm
  obtain ⟨vv, hTr, hj⟩ := both
  subst vv
  refine ⟨μ, sB I1 (lo + 146) 26 M1, ?_, INV_T h fr (fun j z => by rw [g7]; exact hj j z) (by rw [g8]; exact m2') (by rw [g7]; exact hTr)⟩
  rw [eS, eA] at e1 e2
  simp (disch := omega) only [b312_270, b312_284, b312_298, rdA_k hkb, gO_k kO, gO_k kM, e1, kb1, e2, eq_self, Jl0, Jl1, Jl2, Jl3, Jl4, Jl5, Jl6, Jl7, Jl8, Jl9, Jl10, Jl11, Jl12, Jl13, Jl14, Jl15, Jl16, Jl17, Jl18, Jl19, Jl20, Jl22, Jl24, Jl28, Jl30, Jl31, Jl32, Jl35, Jl36, Jl37, Jl38, Jl39, Jl40, Jl48, Jl57, Jl59, Jl60, Jl61, Jl63, Jl64, Jl68, Jl69, Jl96, Jl97, Jl98, Jl99, Jl100, Jl122, Jl149, Jl150, Jl165, Jl255, Jl511, Jl512, Jl600, Jl610, Jl940, Jl968, Jl999, Jl1134, Jl1152, Jl2048, Jl4608, Jl9999, Jl99999, Jl100000, Jl147456, Jl12345, Jl1103515245, Jl100000000, Jlm1, Jlm2, J_add, J_sub, J_mul, J_lt, J_le, J_eq, J_ite, J_cl, ri_j, wi_j, b2i_z, b2i_o, b2i_zo, Int.cast_ofNat_Int, Int.natCast_zero, Int.natCast_one, if_true, if_false, ite_self, Int.le_refl, J_bit, J_or, J_neg, J_oN, Int.reduceEq, Int.reduceLT, Int.reduceLE, Int.reduceNeg, Int.reduceAdd, Int.reduceSub, Int.reduceMul, Int.reduceToNat, J_shl, J_shr, V_ite, true_or, or_true, nz_j, J_div, J_rem, Option.bind_some, Option.toList_some, Option.toList_none, List.cons_append, List.nil_append, Jl21, Jl23, Jl25, Jl74, Jl83, Jl288, Jl324, Jl1800, Jlm8]
end LAW
