/-! CLASS AND REFERENCE: dues, readings, stops by the same words -/
def rdN (S : Nat → Int → Int) (si : Int → Int) (T : Nat → Int → Int) (k u : Int) : Int := rdT S (-1) 0 0 si T k u
def dueT (S L T : Nat → Int → Int) (rd : Int → Int → Int) (k : Int) : Int := if sm (ctT S L T rd k) 36 < L 0 1 then sm (ctT S L T rd k) 36 else L 0 1
theorem seR_n {S : Nat → Int → Int} {a b a' b' w k u : Int} (hk : 0 ≤ k) : seR S (-1) a b w k u = seR S (-1) a' b' w k u := by
  unfold seR
  have h : ∀ p : Prop, ¬ (-1 = k ∧ p) := fun p q => by omega
  simp only [h, if_false]
theorem rdT_n {S T : Nat → Int → Int} {si si' : Int → Int} {a b k u : Int} (hk : 0 ≤ k) (hs : si k = si' k) (hs0 : -1 ≤ si k) : rdT S (-1) a b si T k u = rdN S si' T k u := by
  unfold rdN rdT rqR dpR
  rw [← hs]
  rw [seR_n (a := a) (b := b) (a' := 0) (b' := 0) hk]
  by_cases c : si k = -1
  · simp [c]
  · rw [seR_n (a := a) (b := b) (a' := 0) (b' := 0) (k := si k) (by omega)]
theorem cgG_congr {S L : Nat → Int → Int} {r r' : Int → Int} {k u : Int} (hk : 0 ≤ k ∧ k < S 0 3) (h : ∀ j, 0 ≤ j → j < S 0 3 → r j = r' j) : cgG S L r k u = cgG S L r' k u := by
  unfold cgG
  have e : mx (fun j => decide (S 3 j = S 3 k ∧ S 4 j = S 4 k)) r (S 0 3) = mx (fun j => decide (S 3 j = S 3 k ∧ S 4 j = S 4 k)) r' (S 0 3) := fo_congr _ _ _ (fun j x g1 g2 => by simp only [h j g1 g2])
  rw [e, h k hk.1 hk.2]
theorem ctT_congr {S L T : Nat → Int → Int} {rd rd' : Int → Int → Int} {k : Int} (hk : 0 ≤ k ∧ k < S 0 3) (h : ∀ j u, 0 ≤ j → j < S 0 3 → 0 ≤ u → u < 36 → rd j u = rd' j u) : sm (ctT S L T rd k) 36 = sm (ctT S L T rd' k) 36 := sm_congr _ _ (fun u g1 g2 => by
  unfold ctT
  rw [cgG_congr hk (fun j g3 g4 => h j u g3 g4 g1 g2)])
theorem rgT_congr {S T : Nat → Int → Int} {rd rd' : Int → Int → Int} {u : Int} (hu : 0 ≤ u ∧ u < 36) (h : ∀ j u, 0 ≤ j → j < S 0 3 → 0 ≤ u → u < 36 → rd j u = rd' j u) : sm (rgT S T rd u) (S 0 3) = sm (rgT S T rd' u) (S 0 3) := sm_congr _ _ (fun k g1 g2 => by
  unfold rgT
  rw [h k u g1 g2 hu.1 hu.2])
theorem RN_congr {S L T M : Nat → Int → Int} {rd rd' : Int → Int → Int} (h : ∀ j u, 0 ≤ j → j < S 0 3 → 0 ≤ u → u < 36 → rd j u = rd' j u) (hN : RN S L rd T M) : RN S L rd' T M := by
  obtain ⟨p1, p2, p3, p4, p5, p6, p7, p8⟩ := hN
  refine ⟨p1, ?_, p3, fun w g1 g2 => ?_, p5, fun k g1 g2 => ?_, fun g => ⟨fun k g1 g2 => ?_, ?_⟩, p8⟩
  · rw [p2]; exact sm_congr _ _ (fun u g1 g2 => rgT_congr ⟨g1, g2⟩ h)
  · rw [p4 w g1 g2]; exact sm_congr _ _ (fun j g3 g4 => rgT_congr (by omega) h)
  · rw [p6 k g1 g2]; exact fo_congr _ _ _ (fun u x g3 g4 => by unfold ltT; rw [h k u g1 g2 g3 g4])
  · rw [(p7 g).1 k g1 g2]; exact ctT_congr ⟨g1, g2⟩ h
  · rw [(p7 g).2]
    congr 1
    exact an_congr _ _ (fun u g3 g4 => an_congr _ _ (fun k g5 g6 => by unfold abT; rw [h k u g5 g6 g3 g4]))
/-- house and unit behind i acts -/
def huS (S R : Nat → Int → Int) (i : Int) : Int × Int := fo (fun i p => if R 1 i = 1 then p else if R 1 i = 0 then (R 2 i, p.2 + S 1 (p.1 * 8 + R 2 i)) else (p.1, p.2 + R 2 i)) (R 0 0, R 0 1) i
theorem tw_hu {S R T : Nat → Int → Int} {i : Int} (hi : 0 ≤ i) : twS S R (t0S R T) i 0 0 = (huS S R i).1 ∧ twS S R (t0S R T) i 0 1 = (huS S R i).2 := by
  have r0 : t0S R T 0 0 = R 0 0 ∧ t0S R T 0 1 = R 0 1 := by unfold t0S clT; simp [u3, sA]
  have : ∀ j : Nat, twS S R (t0S R T) j 0 0 = (huS S R j).1 ∧ twS S R (t0S R T) j 0 1 = (huS S R j).2 := by
    intro j
    induction j with
    | zero => exact r0
    | succ j ih =>
      have e : ((j + 1 : Nat) : Int) = (j : Int) + 1 := by omega
      rw [e]
      have e1 : twS S R (t0S R T) ((j : Int) + 1) = u3 (stepT S (R 1 j) (R 2 j) (twS S R (t0S R T) j)) 0 2 ((j : Int) + 1) := fo_s _ _ (by omega)
      have e2 : huS S R ((j : Int) + 1) = if R 1 j = 1 then huS S R j else if R 1 j = 0 then (R 2 j, (huS S R j).2 + S 1 ((huS S R j).1 * 8 + R 2 j)) else ((huS S R j).1, (huS S R j).2 + R 2 j) := fo_s _ _ (by omega)
      rw [e1, e2, ← ih.1, ← ih.2]
      unfold stepT
      by_cases c1 : R 1 (j : Int) = 1
      · rw [if_pos c1, if_pos c1]
        have := (soT_r (T := twS S R (t0S R T) j) (j := (j : Int) + 1)).1
        rw [this.1, this.2]
        exact ih
      · rw [if_neg c1, if_neg c1]
        by_cases c0 : R 1 (j : Int) = 0
        · rw [if_pos c0, if_pos c0]
          unfold goT
          simp [u3]
        · rw [if_neg c0, if_neg c0]
          unfold waT
          simp [u3]
  have := this i.toNat
  rwa [show ((i.toNat : Nat) : Int) = i by omega] at this
/-- how many acts can be, of m -/
def stQ (S R : Nat → Int → Int) (m : Int) : Int := if 0 ≤ R 0 0 ∧ R 0 0 < S 0 0 then (if fi (fun i => !canT S (R 1 i) (R 2 i) (huS S R i).1 (huS S R i).2) (mnS R m) = -1 then mnS R m else fi (fun i => !canT S (R 1 i) (R 2 i) (huS S R i).1 (huS S R i).2) (mnS R m)) else 0
theorem fi_congr (p q : Int → Bool) {n : Int} (h : ∀ i, 0 ≤ i → i < n → p i = q i) : fi p n = fi q n := fo_congr _ _ _ (fun i x h1 h2 => by rw [h i h1 h2])
theorem wl_st {S R T : Nat → Int → Int} {x : Int} (hV : SV S) (hR : RV R) (hx : 0 ≤ x) : wlS S R T x 0 2 = stQ S R x := by
  have vr := hR.1
  have t02 : t0S R T 0 2 = 0 := by unfold t0S clT; simp [u3, sA]
  unfold wlS stQ
  by_cases hh : 0 ≤ R 0 0 ∧ R 0 0 < S 0 0
  · rw [if_pos hh, if_pos hh]
    have hn : 0 ≤ mnS R x ∧ mnS R x ≤ R 0 2 ∧ mnS R x ≤ x := by
      unfold mnS
      split <;> omega
    have ef : fi (fun i => !cnS S R (t0S R T) i) (mnS R x) = fi (fun i => !canT S (R 1 i) (R 2 i) (huS S R i).1 (huS S R i).2) (mnS R x) := fi_congr _ _ (fun i g1 g2 => by
      unfold cnS
      rw [(tw_hu g1).1, (tw_hu g1).2])
    obtain ⟨s1, s2, s3, s4⟩ := spS_sp (S := S) (R := R) (T := t0S R T) hn.1
    rw [← ef]
    show _ = spS S R (t0S R T) (mnS R x)
    by_cases c : spS S R (t0S R T) (mnS R x) = 0
    · rw [c]; exact t02
    · have es : twS S R (t0S R T) (spS S R (t0S R T) (mnS R x)) = u3 (stepT S (R 1 (spS S R (t0S R T) (mnS R x) - 1)) (R 2 (spS S R (t0S R T) (mnS R x) - 1)) (twS S R (t0S R T) (spS S R (t0S R T) (mnS R x) - 1))) 0 2 (spS S R (t0S R T) (mnS R x) - 1 + 1) := by
        conv => lhs; rw [show spS S R (t0S R T) (mnS R x) = spS S R (t0S R T) (mnS R x) - 1 + 1 by omega]
        exact fo_s _ _ (by omega)
      rw [es, u3_s]
      omega
  · rw [if_neg hh, if_neg hh]
    exact t02
/-- a shorter walk stops where the longer one does, if it gets so far -/
theorem st_min {S R : Nat → Int → Int} {x : Int} (hR : RV R) (hx : 0 ≤ x) : (0 ≤ stQ S R 40 ∧ stQ S R 40 ≤ 40) ∧ stQ S R x = if x < stQ S R 40 then x else stQ S R 40 := by
  have vr := hR.1
  unfold stQ
  by_cases hh : 0 ≤ R 0 0 ∧ R 0 0 < S 0 0
  · rw [if_pos hh, if_pos hh]
    have hm : mnS R 40 = R 0 2 := by unfold mnS; split <;> omega
    have hn : mnS R x = if R 0 2 < x then R 0 2 else x := rfl
    rw [hm]
    rcases fi_sp (fun i => !canT S (R 1 i) (R 2 i) (huS S R i).1 (huS S R i).2) (n := R 0 2) (by omega) with ⟨a1, a2⟩ | ⟨a1, a2, a3, a4⟩
    · rw [if_pos a1]
      refine ⟨by omega, ?_⟩
      rcases fi_sp (fun i => !canT S (R 1 i) (R 2 i) (huS S R i).1 (huS S R i).2) (n := mnS R x) (by rw [hn]; split <;> omega) with ⟨b1, b2⟩ | ⟨b1, b2, b3, b4⟩
      · rw [if_pos b1, hn]; split <;> split <;> omega
      · have hn2 : mnS R x ≤ R 0 2 := by rw [hn]; split <;> omega
        have := a2 _ b1 (by omega)
        rw [this] at b3; cases b3
    · have hne : ¬ fi (fun i => !canT S (R 1 i) (R 2 i) (huS S R i).1 (huS S R i).2) (R 0 2) = -1 := by omega
      rw [if_neg hne]
      refine ⟨by omega, ?_⟩
      rcases fi_sp (fun i => !canT S (R 1 i) (R 2 i) (huS S R i).1 (huS S R i).2) (n := mnS R x) (by rw [hn]; split <;> omega) with ⟨b1, b2⟩ | ⟨b1, b2, b3, b4⟩
      · rw [if_pos b1]
        have hlt : mnS R x ≤ fi (fun i => !canT S (R 1 i) (R 2 i) (huS S R i).1 (huS S R i).2) (R 0 2) := by
          by_cases c : mnS R x ≤ fi (fun i => !canT S (R 1 i) (R 2 i) (huS S R i).1 (huS S R i).2) (R 0 2)
          · exact c
          · have := b2 _ a1 (by omega)
            rw [this] at a3; cases a3
        have hx2 : mnS R x = x := by
          rw [hn]; split
          · rename_i q; rw [hn, if_pos q] at hlt; omega
          · rfl
        rw [hx2] at hlt ⊢
        split <;> omega
      · rw [if_neg (by omega)]
        have he : fi (fun i => !canT S (R 1 i) (R 2 i) (huS S R i).1 (huS S R i).2) (mnS R x) = fi (fun i => !canT S (R 1 i) (R 2 i) (huS S R i).1 (huS S R i).2) (R 0 2) := by
          by_cases c : fi (fun i => !canT S (R 1 i) (R 2 i) (huS S R i).1 (huS S R i).2) (mnS R x) < fi (fun i => !canT S (R 1 i) (R 2 i) (huS S R i).1 (huS S R i).2) (R 0 2)
          · have := a4 _ b1 c
            rw [this] at b3; cases b3
          · by_cases c2 : fi (fun i => !canT S (R 1 i) (R 2 i) (huS S R i).1 (huS S R i).2) (R 0 2) < fi (fun i => !canT S (R 1 i) (R 2 i) (huS S R i).1 (huS S R i).2) (mnS R x)
            · have := b4 _ a1 c2
              rw [this] at a3; cases a3
            · omega
        rw [he]
        have : mnS R x ≤ x := by rw [hn]; split <;> omega
        rw [he] at b2
        rw [if_neg (by omega)]
  · rw [if_neg hh, if_neg hh]
    refine ⟨by omega, ?_⟩
    split <;> omega
section NIGHTS
variable {S L T : Nat → Int → Int} {D si : Int → Int}
theorem dz_link (hV : SV S) (hZ : TZ T) (hD : DT S T D) (hI : SIo S si) {k : Int} (hk : 0 ≤ k ∧ k < S 0 3) : dzS S L T D si k (T 0 7) = sm (ctT S L T (rdN S si T) k) 36 := by
  have vk := hV.2.2.1 k hk.1 hk.2
  unfold dzS
  have h1 : ∀ u, 0 ≤ u → u < 36 → ctS S L T D si k u = ctT S L T (rdN S si T) k u := by
    intro u g1 g2
    unfold ctS ctT
    have e : cgS S L D si k u = cgG S L (fun i => rdN S si T i u) k u := by
      show cgG S L (fun j => rdS S D si j u) k u = _
      exact cgG_congr hk (fun j g3 g4 => rd_link hV hD hI ⟨g3, g4⟩ ⟨g1, g2⟩)
    rw [e]
  have h2 := fo_TZ hZ (fun u x => x + ctS S L T D si k u) 0 (fun u x g1 g2 g3 => by
    have := (hZ.2.2.2.2 u g1 g2).2 g3
    unfold ctS
    rw [this, if_neg (by omega), Int.add_zero])
  show fo (fun j x => x + ctS S L T D si k (T 4 j)) 0 (T 0 7) = _
  rw [h2]
  exact sm_congr _ _ h1
theorem due_link (hV : SV S) (hZ : TZ T) (hD : DT S T D) (hI : SIo S si) {k : Int} (hk : 0 ≤ k ∧ k < S 0 3) : dueS S L T D si k = dueT S L T (rdN S si T) k := by
  unfold dueS dueT
  rw [dz_link hV hZ hD hI hk]
  split <;> split <;> omega
theorem wt_link (hV : SV S) (hD : DT S T D) {k u : Int} (hk : 0 ≤ k ∧ k < S 0 3) (hu : 0 ≤ u ∧ u < 36) : wtS S T D k u = (wkS S T k u && asS S k u) := by
  unfold wtS
  rw [hD k u hk.1 hk.2 hu.1 hu.2]
  simp only [ne_eq, dp_as hV hk]
  cases asS S k u <;> simp
theorem rg_link (hV : SV S) (hD : DT S T D) (hI : SIo S si) {k u : Int} (hk : 0 ≤ k ∧ k < S 0 3) (hu : 0 ≤ u ∧ u < 36) : rgS S T D si u k = rgT S T (rdN S si T) u k := by
  unfold rgS rgT
  rw [rd_link (a := 0) (b := 0) hV hD hI hk hu]
  rfl
theorem lr_link (hV : SV S) (hZ : TZ T) (hD : DT S T D) (hI : SIo S si) {k : Int} (hk : 0 ≤ k ∧ k < S 0 3) : fo (fun i x => if T 2 (T 4 i) = S 3 k ∧ rdS S D si k (T 4 i) ≠ -1 then rdS S D si k (T 4 i) else x) (-1) (T 0 7) = fo (ltT S T (rdN S si T) k) (-1) 36 := by
  have vk := hV.2.2.1 k hk.1 hk.2
  have h2 := fo_TZ hZ (fun u x => if T 2 u = S 3 k ∧ rdS S D si k u ≠ -1 then rdS S D si k u else x) (-1) (fun u x g1 g2 g3 => by
    have := (hZ.2.2.2.2 u g1 g2).2 g3
    rw [this, if_neg (by omega)])
  rw [h2]
  refine fo_congr _ _ _ (fun u x g1 g2 => ?_)
  unfold ltT
  rw [rd_link (a := 0) (b := 0) hV hD hI hk ⟨g1, g2⟩]
  rfl
theorem ab_link (hV : SV S) (hLV : LV L) (hZ : TZ T) (hD : DT S T D) (hI : SIo S si) : an (fun i => abS S L D si (T 2 (T 4 i)) (T 4 i)) (T 0 7) = an (fun u => an (abT S L T (rdN S si T) u) (S 0 3)) 36 := by
  have v := hV.1
  have h2 := fo_TZ hZ (fun u x => x || abS S L D si (T 2 u) u) false (fun u x g1 g2 g3 => by
    have := (hZ.2.2.2.2 u g1 g2).2 g3
    rw [this]
    have : abS S L D si (-1) u = false := an_false _ (by omega) (fun k g1 g2 => by
      have vk := hV.2.2.1 k g1 g2
      rw [decide_eq_false (show ¬ S 3 k = -1 by omega), Bool.and_false])
    rw [this, Bool.or_false])
  show fo (fun j x => x || abS S L D si (T 2 (T 4 j)) (T 4 j)) false (T 0 7) = _
  rw [h2]
  refine an_congr _ _ (fun u g1 g2 => ?_)
  refine an_congr _ _ (fun k g3 g4 => ?_)
  have hl := hLV.1
  unfold abT
  rw [rd_link (a := 0) (b := 0) hV hD hI ⟨g3, g4⟩ ⟨g1, g2⟩]
  show (decide (L 0 0 < rdN S si T k u) && decide (S 3 k = T 2 u)) = _
  rw [Bool.eq_iff_iff]
  rw [Bool.and_eq_true, decide_eq_true_eq, decide_eq_true_eq, decide_eq_true_eq]
  constructor
  · rintro ⟨q1, q2⟩
    exact ⟨q2.symm, by omega, q1⟩
  · rintro ⟨q1, q2, q3⟩
    exact ⟨q3, q1.symm⟩
theorem dp_DT {f : Int → Int} : DT S T (dpX S T f (S 0 3)) := by
  intro k u h1 h2 h3 h4
  unfold dpX
  rw [if_pos (by omega)]
  congr 1 <;> omega
theorem si_o (hV : SV S) {f : Int → Int} : SIo S (siX S f (S 0 3)) := by
  intro k h1 h2
  have := siS_SIo hV k h1 h2
  unfold siX
  rw [if_pos ⟨h1, h2⟩]
  exact this
/-- other words for the same stand-ins -/
theorem rdN_si {si' : Int → Int} {k u : Int} (h : si k = si' k) : rdN S si T k u = rdN S si' T k u := by
  unfold rdN rdT rqR
  rw [h]
end NIGHTS
