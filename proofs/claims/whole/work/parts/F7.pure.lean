/-! A ROUND, act by act: beginning, sounding, waiting, going -/
theorem RN_0 {S L R T M : Nat → Int → Int} {rd : Int → Int → Int} (hV : SV S) (hR : RV R) (h0 : M 0 25 = R 0 0 ∧ M 0 26 = R 0 1 ∧ M 0 27 = 0 ∧ M 0 28 = 0 ∧ M 0 29 = 0 ∧ M 0 30 = 0) (h1 : ∀ k, 0 ≤ k → k < 9 → M 9 k = -1 ∧ M 10 k = 0 ∧ M 11 k = -1 ∧ M 13 k = 0) : RN S L rd (t0S R T) M := by
  have v := hV.1
  have r0 : t0S R T 0 0 = R 0 0 ∧ t0S R T 0 1 = R 0 1 := by
    unfold t0S clT u3 sA; simp
  have r1 : ∀ x, 0 ≤ x → x < 36 → t0S R T 1 x = -1 := by
    intro x g1 g2; unfold t0S clT u3 sA flr; simp; omega
  have r2 : ∀ x, 0 ≤ x → x < 36 → t0S R T 2 x = -1 := by
    intro x g1 g2; unfold t0S clT u3 sA flr; simp; omega
  have hg : ∀ u, 0 ≤ u → u < 36 → sm (rgT S (t0S R T) rd u) (S 0 3) = 0 := fun u g1 g2 => sm_z _ (by omega) (fun k g3 g4 => by
    have := hV.2.2.1 k g3 g4
    unfold rgT
    rw [r2 u g1 g2, if_neg (by omega)])
  have hw : ∀ k u, 0 ≤ u → u < 36 → wkS S (t0S R T) k u = false := fun k u g1 g2 => by
    unfold wkS
    rw [r1 u g1 g2]
    simp
  refine ⟨⟨by omega, by omega⟩, ?_, ?_, fun w g1 g2 => ?_, fun k g1 g2 => ?_, fun k g1 g2 => ?_, fun _ => ⟨fun k g1 g2 => ?_, ?_⟩, by omega⟩
  · rw [h0.2.2.1, sm_z _ (by omega) hg]
  · rw [h0.2.2.2.1, sm_z _ (by omega) (fun k g1 g2 => sm_z _ (by omega) (fun u g3 g4 => by rw [hw k u g3 g4]; rfl))]
  · rw [(h1 w g1 g2).2.2.2, sm_z _ (by omega) (fun j g3 g4 => hg _ (by omega) (by omega))]
  · rw [(h1 k g1 (by omega)).1]
    unfold lwS
    rw [fo_tail _ _ (u := 0) (by omega) (fun i x g3 g4 => by rw [hw k i g3 (by omega)]; simp)]
    rfl
  · rw [(h1 k g1 (by omega)).2.2.1, fo_tail _ _ (u := 0) (by omega) (fun i x g3 g4 => by
      have := hV.2.2.1 k g1 g2
      unfold ltT
      rw [r2 i g3 g4, if_neg (by omega)])]
    rfl
  · rw [(h1 k g1 (by omega)).2.1, sm_z _ (by omega) (fun u g3 g4 => by
      have := hV.2.2.1 k g1 g2
      unfold ctT
      rw [r2 u g3 g4, if_neg (by omega)])]
  · rw [h0.2.2.2.2.2, an_false _ (by omega) (fun u g1 g2 => an_false _ (by omega) (fun k g3 g4 => by
      have := hV.2.2.1 k g3 g4
      unfold abT
      rw [r2 u g1 g2]
      simp
      omega))]
    rfl
section STEPS
variable {S L T T' M M' : Nat → Int → Int} {al a1 a2 i : Int} {si : Int → Int}
/-- waiting -/
theorem RN_wa {un : Int} {rd : Int → Int → Int} (h : RN S L rd T M) (h0 : T' 0 0 = T 0 0) (h01 : T' 0 1 = un) (h1 : T' 1 = T 1) (h2 : T' 2 = T 2) (h3 : T' 3 = T 3) (hc : ∀ c, c ≠ 0 → M' c = M c) (hj : ∀ j, j ≠ 26 → M' 0 j = M 0 j) (hu : M' 0 26 = un) : RN S L rd T' M' := by
  obtain ⟨p1, p2, p3, p4, p5, p6, p7, p8⟩ := h
  have e1 : rgT S T' rd = rgT S T rd := by funext u k; unfold rgT; rw [h2, h3]
  have e2 : ltT S T' rd = ltT S T rd := by funext u k; unfold ltT; rw [h2]
  have e3 : ctT S L T' rd = ctT S L T rd := by funext u k; unfold ctT; rw [h2, h3]
  have e4 : abT S L T' rd = abT S L T rd := by funext u k; unfold abT; rw [h2]
  unfold RN
  rw [e1, e2, e3, e4, wkS_c h1, lwS_c h1, hj 25 (by decide), hj 27 (by decide), hj 28 (by decide), hj 30 (by decide), hj 31 (by decide), hc 13 (by decide), hc 9 (by decide), hc 11 (by decide), hc 10 (by decide), h0, h01, hu]
  exact ⟨⟨p1.1, rfl⟩, p2, p3, p4, p5, p6, p7, p8⟩
/-- going -/
theorem RN_go {nb : Int} {rd rd' : Int → Int → Int} (hV : SV S) (hW : TW S i T) (h : RN S L rd T M) (hu : T 0 1 < T' 0 1 ∧ T' 0 1 ≤ 35) (hn : 0 ≤ nb ∧ nb < 8) (h0 : T' 0 0 = nb) (h1 : ∀ v, T' 1 v = if v = T' 0 1 then nb else T 1 v) (h2 : T' 2 = T 2) (h3 : T' 3 = T 3) (hrd : ∀ k u, 0 ≤ k → k < S 0 3 → 0 ≤ u → u ≤ T 0 1 → rd' k u = rd k u) (hm : ∀ c, c ≠ 0 → c ≠ 9 → M' c = M c) (hj : ∀ j, j ≠ 25 → j ≠ 26 → j ≠ 28 → M' 0 j = M 0 j) (h25 : M' 0 25 = nb) (h26 : M' 0 26 = T' 0 1) (h28 : M' 0 28 = M 0 28 + sm (fun k => b2i (tb (S 0 1) (S 3 k) && decide (S 1 (S 3 k * 8 + nb) ≠ 0) && asS S k (T' 0 1))) (S 0 3)) (h9 : ∀ k, 0 ≤ k → k < S 0 3 → M' 9 k = if (tb (S 0 1) (S 3 k) && decide (S 1 (S 3 k * 8 + nb) ≠ 0) && asS S k (T' 0 1)) = true then T' 0 1 else M 9 k) : RN S L rd' T' M' := by
  have v := hV.1
  obtain ⟨p1, p2, p3, p4, p5, p6, p7, p8⟩ := h
  obtain ⟨w1, w2, w3, w4, w5, w6⟩ := hW
  have sd : ∀ u k, 0 ≤ u → u < 36 → 0 ≤ k → k < S 0 3 → T 2 u = S 3 k → u ≤ T 0 1 := by
    intro u k g1 g2 g3 g4 g5
    have a := w2 u g1 g2
    have b := hV.2.2.1 k g3 g4
    by_cases c : 0 < T 3 u
    · exact (a.2.2.2.1 c).1
    · have := a.2.2.2.2 (by omega)
      omega
  have e1 : ∀ u, 0 ≤ u → u < 36 → sm (rgT S T' rd' u) (S 0 3) = sm (rgT S T rd u) (S 0 3) := fun u g1 g2 => sm_congr _ _ (fun k g3 g4 => by
    unfold rgT
    rw [h2, h3]
    by_cases c : T 2 u = S 3 k
    · rw [hrd k u g3 g4 g1 (sd u k g1 g2 g3 g4 c)]
    · rw [if_neg (fun q => c q.1), if_neg (fun q => c q.1)])
  have wk : ∀ k u, u ≠ T' 0 1 → wkS S T' k u = wkS S T k u := by
    intro k u g
    unfold wkS
    rw [h1 u, if_neg g]
  have wk1 : ∀ k, 0 ≤ k → k < S 0 3 → wkS S T' k (T' 0 1) = (tb (S 0 1) (S 3 k) && decide (S 1 (S 3 k * 8 + nb) ≠ 0)) := by
    intro k g1 g2
    have b := hV.2.2.1 k g1 g2
    have c := hV.2.1 (S 3 k * 8 + nb) (by omega) (by omega)
    unfold wkS
    rw [h1 (T' 0 1), if_pos rfl]
    have hne : nb ≠ -1 := by omega
    have hi : (0 < S 1 (S 3 k * 8 + nb)) = (S 1 (S 3 k * 8 + nb) ≠ 0) := propext ⟨fun q => by omega, fun q => by omega⟩
    cases tb (S 0 1) (S 3 k) <;> simp [hne, hi]
  have wk0 : ∀ k u, T 0 1 < u → u < 36 → wkS S T k u = false := by
    intro k u g1 g2
    have a := (w2 u (by omega) g2).1
    have : T 1 u = -1 := by
      by_cases c : T 1 u = -1
      · exact c
      · have := a.2.2 c; omega
    unfold wkS
    rw [this]
    simp
  refine ⟨⟨by omega, by omega⟩, ?_, ?_, fun w g1 g2 => ?_, fun k g1 g2 => ?_, fun k g1 g2 => ?_, fun g => ⟨fun k g1 g2 => ?_, ?_⟩, by rw [hj 30 (by decide) (by decide) (by decide)]; exact p8⟩
  · rw [hj 27 (by decide) (by decide) (by decide), p2]
    exact (sm_congr _ _ e1).symm
  · rw [h28, p3, ← sm_add _ _ (by omega)]
    refine sm_congr _ _ (fun k g1 g2 => ?_)
    rw [sm_up (fun u => b2i (wkS S T k u && asS S k u)) (fun u => b2i (wkS S T' k u && asS S k u)) (n := 36) (u := T' 0 1) (by omega) (fun u g3 g4 g5 => by rw [wk k u g5]), wk0 k (T' 0 1) (by omega) (by omega), wk1 k g1 g2]
    simp [b2i]
  · rw [hm 13 (by decide) (by decide), p4 w g1 g2]
    exact (sm_congr _ _ (fun j g3 g4 => e1 _ (by omega) (by omega))).symm
  · rw [h9 k g1 g2, p5 k g1 g2]
    unfold lwS
    rw [show (35 : Int) + 1 = 36 from rfl]
    rw [fo_tail (fun v x => if (wkS S T' k v && asS S k v) = true then v else x) _ (u := T' 0 1 + 1) (by omega) (fun u x g3 g4 => by rw [wk k u (by omega), wk0 k u (by omega) g4]; simp)]
    rw [fo_tail (fun v x => if (wkS S T k v && asS S k v) = true then v else x) _ (u := T' 0 1) (by omega) (fun u x g3 g4 => by rw [wk0 k u (by omega) g4]; simp)]
    rw [fo_s _ _ (by omega), wk1 k g1 g2]
    rw [fo_congr (fun v x => if (wkS S T' k v && asS S k v) = true then v else x) (fun v x => if (wkS S T k v && asS S k v) = true then v else x) (-1) (fun u x g3 g4 => by rw [wk k u (by omega)])]
  · rw [hm 11 (by decide) (by decide), p6 k g1 g2]
    exact (fo_congr _ _ _ (fun u x g3 g4 => by
      unfold ltT
      rw [h2]
      by_cases c : T 2 u = S 3 k
      · rw [hrd k u g1 g2 g3 (sd u k g3 g4 g1 g2 c)]
      · rw [if_neg (fun q => c q.1), if_neg (fun q => c q.1)])).symm
  · have g' : M 0 31 = 1 := by rw [← hj 31 (by decide) (by decide) (by decide)]; exact g
    rw [hm 10 (by decide) (by decide), (p7 g').1 k g1 g2]
    refine (sm_congr _ _ (fun u g3 g4 => ?_)).symm
    unfold ctT
    rw [h2, h3]
    by_cases c : S 3 k = T 2 u
    · rw [if_pos c, if_pos c]
      congr 1
      have lu := sd u k g3 g4 g1 g2 c.symm
      unfold cgG
      dsimp only
      simp only [hrd k u g1 g2 g3 lu]
      have : mx (fun j => decide (S 3 j = S 3 k ∧ S 4 j = S 4 k)) (fun i => rd' i u) (S 0 3) = mx (fun j => decide (S 3 j = S 3 k ∧ S 4 j = S 4 k)) (fun i => rd i u) (S 0 3) := fo_congr _ _ _ (fun j x g5 g6 => by simp only [hrd j u g5 g6 g3 lu])
      rw [this]
    · rw [if_neg c, if_neg c]
  · have g' : M 0 31 = 1 := by rw [← hj 31 (by decide) (by decide) (by decide)]; exact g
    rw [hj 30 (by decide) (by decide) (by decide), (p7 g').2]
    congr 1
    refine an_congr _ _ (fun u g3 g4 => an_congr _ _ (fun k g5 g6 => ?_))
    unfold abT
    rw [h2]
    by_cases c : T 2 u = S 3 k
    · rw [hrd k u g5 g6 g3 (sd u k g3 g4 g5 g6 c)]
    · simp [c]
/-- sounding -/
theorem RN_so {rd : Int → Int → Int} (hV : SV S) (hW : TW S i T) (h : RN S L rd T M) (h0 : T' 0 0 = T 0 0) (h01 : T' 0 1 = T 0 1) (h1 : T' 1 = T 1) (h2 : ∀ v, T' 2 v = if v = T 0 1 then T 0 0 else T 2 v) (h3 : ∀ v, T' 3 v = if v = T 0 1 then T 3 (T 0 1) + 1 else T 3 v) {M1 : Nat → Int → Int} (hM0 : M1 0 = M 0) (hMc : ∀ c, c ≠ 12 → M1 c = M c) (hN : ∀ k, 0 ≤ k → k < S 0 3 → M1 12 k = if S 3 k = T 0 0 then rd k (T 0 1) else -1) (hr : ∀ k, 0 ≤ k → k < S 0 3 → -1 ≤ rd k (T 0 1)) (h31 : M 0 31 = 0 ∨ M 0 31 = 1) (hP : SnP S L M1 (S 0 3) M') : RN S L rd T' M' := by
  have v := hV.1
  obtain ⟨p1, p2, p3, p4, p5, p6, p7, p8⟩ := h
  obtain ⟨w1, w2, w3, w4, w5, w6⟩ := hW
  obtain ⟨z1, z2, z3, z4, z5, z6, z7⟩ := hP
  have wu := w2 (T 0 1) (by omega) (by omega)
  -- what stood there before
  have hb : ∀ k, 0 ≤ k → k < S 0 3 → T 2 (T 0 1) = S 3 k → T 0 0 = S 3 k := by
    intro k g1 g2 g3
    have b := hV.2.2.1 k g1 g2
    by_cases c : 0 < T 3 (T 0 1)
    · rw [← w6 c]; exact g3
    · have := wu.2.2.2.2 (by omega); omega
  have hb2 : ∀ k, 0 ≤ k → k < S 0 3 → T 0 0 = S 3 k → T 2 (T 0 1) ≠ S 3 k → T 3 (T 0 1) = 0 := by
    intro k g1 g2 g3 g4
    by_cases c : 0 < T 3 (T 0 1)
    · exact absurd ((w6 c).trans g3) g4
    · omega
  have e1 : ∀ k, 0 ≤ k → k < S 0 3 → rgT S T' rd (T 0 1) k = rgT S T rd (T 0 1) k + (if M1 12 k = -1 then 0 else 1) := by
    intro k g1 g2
    rw [hN k g1 g2]
    unfold rgT
    rw [h2, h3, if_pos rfl, if_pos rfl]
    have q1 := hb k g1 g2
    have q2 := hb2 k g1 g2
    grind
  have e1n : ∀ u, u ≠ T 0 1 → rgT S T' rd u = rgT S T rd u := by
    intro u g
    funext k
    unfold rgT
    rw [h2, h3, if_neg g, if_neg g]
  have e1s : sm (rgT S T' rd (T 0 1)) (S 0 3) = sm (rgT S T rd (T 0 1)) (S 0 3) + sm (fun k => if M1 12 k = -1 then 0 else 1) (S 0 3) := by
    rw [← sm_add _ _ (by omega)]
    exact sm_congr _ _ e1
  have hlate : ∀ u k, T 0 1 < u → u < 36 → 0 ≤ k → k < S 0 3 → T 2 u ≠ S 3 k := by
    intro u k g1 g2 g3 g4 g5
    have a := w2 u (by omega) g2
    have b := hV.2.2.1 k g3 g4
    by_cases c : 0 < T 3 u
    · have := (a.2.2.2.1 c).1; omega
    · have := a.2.2.2.2 (by omega); omega
  have m27 : M' 0 27 = M 0 27 + sm (fun k => if M1 12 k = -1 then 0 else 1) (S 0 3) := by rw [z3, hM0]
  have mj : ∀ j, j ≠ 27 → j ≠ 30 → M' 0 j = M 0 j := fun j g1 g2 => by rw [z2 j g1 g2, hM0]
  refine ⟨⟨by rw [mj 25 (by decide) (by decide), h0]; exact p1.1, by rw [mj 26 (by decide) (by decide), h01]; exact p1.2⟩, ?_, ?_, fun w g1 g2 => ?_, fun k g1 g2 => ?_, fun k g1 g2 => ?_, fun g => ?_, ?_⟩
  · rw [m27, p2, sm_up (fun u => sm (rgT S T rd u) (S 0 3)) (fun u => sm (rgT S T' rd u) (S 0 3)) (n := 36) (u := T 0 1) (by omega) (fun u g3 g4 g5 => by rw [e1n u g5]), e1s]
    omega
  · rw [mj 28 (by decide) (by decide), p3, wkS_c h1]
  · rw [z4 w, hMc 13 (by decide), hM0, p1.2, p4 w g1 g2]
    by_cases c : w = T 0 1 / 4
    · rw [if_pos c, sm_up (fun j => sm (rgT S T rd (w * 4 + j)) (S 0 3)) (fun j => sm (rgT S T' rd (w * 4 + j)) (S 0 3)) (n := 4) (u := T 0 1 - w * 4) (by omega) (fun u g3 g4 g5 => by rw [e1n _ (by omega)]), show w * 4 + (T 0 1 - w * 4) = T 0 1 by omega, e1s]
      omega
    · rw [if_neg c]
      exact (sm_congr _ _ (fun j g3 g4 => by rw [e1n _ (by omega)])).symm
  · rw [z1 9 (by decide) (by decide) (by decide) (by decide), hMc 9 (by decide), p5 k g1 g2, lwS_c h1]
  · rw [z5 k, hMc 11 (by decide), p6 k g1 g2, hN k g1 g2]
    rw [fo_tail (ltT S T' rd k) _ (u := T 0 1 + 1) (by omega) (fun u x g3 g4 => by
      have h2u : T' 2 u = T 2 u := by rw [h2, if_neg (by omega)]
      unfold ltT
      rw [h2u, if_neg (fun q => hlate u k (by omega) g4 g1 g2 q.1)])]
    rw [fo_tail (ltT S T rd k) _ (u := T 0 1 + 1) (by omega) (fun u x g3 g4 => by
      unfold ltT
      rw [if_neg (fun q => hlate u k (by omega) g4 g1 g2 q.1)])]
    rw [fo_s _ _ (by omega), fo_s _ _ (by omega)]
    rw [fo_congr (ltT S T' rd k) (ltT S T rd k) (-1) (fun u x g3 g4 => by
      have h2u : T' 2 u = T 2 u := by rw [h2, if_neg (by omega)]
      unfold ltT
      rw [h2u])]
    unfold ltT
    rw [h2, if_pos rfl]
    have q1 := hb k g1 g2
    grind
  · have g' : M 0 31 = 1 := by rw [← mj 31 (by decide) (by decide)]; exact g
    obtain ⟨y1, y2⟩ := z7 (by rw [hM0]; exact g')
    obtain ⟨x1, x2⟩ := p7 g'
    refine ⟨fun k g1 g2 => ?_, ?_⟩
    · rw [y1 k, hMc 10 (by decide), x1 k g1 g2, hM0, p1.2]
      rw [sm_up (ctT S L T rd k) (ctT S L T' rd k) (n := 36) (u := T 0 1) (by omega) (fun u g3 g4 g5 => by unfold ctT; rw [h2, h3, if_neg g5, if_neg g5])]
      have hk := hN k g1 g2
      by_cases c : S 3 k = T 0 0
      · rw [if_pos c] at hk
        by_cases c2 : rd k (T 0 1) = -1
        · rw [if_neg (by rw [hk]; omega)]
          have : ∀ T'', ctT S L T'' rd k (T 0 1) = 0 := by
            intro T''
            unfold ctT cgG
            rw [if_pos c2, Int.mul_zero]
            simp
          rw [this, this]; omega
        · have hco := coR_mx (S := S) (L := L) (N := M1 12) (r := fun j => rd j (T 0 1)) (h := T 0 0) (k := k) (by omega) ⟨g1, g2⟩ c hr hN c2
          rw [if_pos ⟨g1, g2, by rw [hk]; exact c2⟩, hco]
          have ec : cgG S L (fun i => rd i (T 0 1)) k (T 0 1) = chS L (if L 0 4 = 0 then rd k (T 0 1) else mx (fun j => decide (S 3 j = S 3 k ∧ S 4 j = S 4 k)) (fun j => rd j (T 0 1)) (S 0 3)) (T 0 1) (S 3 k) (poS S k (T 0 1)) := by
            unfold cgG
            rw [if_neg c2]
          rw [← ec]
          unfold ctT
          rw [h2, h3, if_pos rfl, if_pos rfl, if_pos c]
          by_cases c3 : S 3 k = T 2 (T 0 1)
          · rw [if_pos c3, Int.add_mul]; omega
          · rw [if_neg c3, hb2 k g1 g2 c.symm (fun q => c3 q.symm)]; omega
      · rw [if_neg c] at hk
        rw [if_neg (by rw [hk]; omega)]
        unfold ctT
        rw [h2, h3, if_pos rfl, if_pos rfl, if_neg c, if_neg (fun q => c (hb k g1 g2 q.symm).symm)]
        omega
    · rw [y2, hM0]
      have e30 : decide (M 0 30 = 1) = an (fun u => an (abT S L T rd u) (S 0 3)) 36 := by
        rw [x2]
        cases an (fun u => an (abT S L T rd u) (S 0 3)) 36 <;> rfl
      rw [e30]
      congr 1
      symm
      rw [an_up (fun u => an (abT S L T rd u) (S 0 3)) (fun u => an (abT S L T' rd u) (S 0 3)) (n := 36) (u := T 0 1) (by omega) (fun u g3 g4 g5 => an_congr _ _ (fun k _ _ => by unfold abT; rw [h2, if_neg g5])) (fun q => by
        obtain ⟨k, g1, g2, g3⟩ := (an_iff _ (by omega)).mp q
        refine (an_iff _ (by omega)).mpr ⟨k, g1, g2, ?_⟩
        unfold abT at g3 ⊢
        rw [decide_eq_true_eq] at g3 ⊢
        rw [h2, if_pos rfl]
        exact ⟨hb k g1 g2 g3.1, g3.2⟩)]
      congr 1
      refine an_congr _ _ (fun k g1 g2 => ?_)
      unfold abT
      rw [h2, if_pos rfl, hN k g1 g2]
      have := hr k g1 g2
      congr 1
      apply propext
      constructor
      · rintro ⟨q1, q2, q3⟩
        rw [if_pos q1.symm]
        exact ⟨q2, q3⟩
      · intro q
        by_cases c : S 3 k = T 0 0
        · rw [if_pos c] at q; exact ⟨c.symm, q⟩
        · rw [if_neg c] at q; exact absurd rfl q.1
  · by_cases g : M 0 31 = 1
    · rw [(z7 (by rw [hM0]; exact g)).2]
      unfold b2i
      split <;> simp
    · rw [(z6 (by rw [hM0]; omega)).2, hM0]
      exact p8
end STEPS
