/-! A ROUND, act by act: what is known behind each act -/
theorem sm_up (f f' : Int → Int) {n u : Int} (hu : 0 ≤ u ∧ u < n) (h : ∀ v, 0 ≤ v → v < n → v ≠ u → f' v = f v) : sm f' n = sm f n + (f' u - f u) := by
  have : ∀ j : Nat, (j : Int) ≤ n → sm f' j = sm f j + (if u < j then f' u - f u else 0) := by
    intro j
    induction j with
    | zero => intro _; rw [if_neg (by omega)]; rfl
    | succ j ih =>
      intro hj
      have e : ((j + 1 : Nat) : Int) = (j : Int) + 1 := by omega
      have := ih (by omega)
      rw [e, sm_s _ (by omega), sm_s _ (by omega), this]
      by_cases c : u = j
      · rw [c, if_neg (by omega), if_pos (by omega)]; omega
      · rw [h j (by omega) (by omega) (fun q => c q.symm)]
        by_cases c2 : u < j
        · rw [if_pos c2, if_pos (by omega)]; omega
        · rw [if_neg c2, if_neg (by omega)]; omega
  have h2 := this n.toNat (by omega)
  rw [show ((n.toNat : Nat) : Int) = n by omega, if_pos hu.2] at h2
  exact h2
theorem sm_add (f g : Int → Int) {n : Int} (hn : 0 ≤ n) : sm (fun i => f i + g i) n = sm f n + sm g n := by
  have := fo_ind (fun i x => x = sm f i + sm g i) (fun i x => x + (f i + g i)) 0 hn rfl (fun i x h1 h2 h3 => by rw [h3, sm_s _ h1, sm_s _ h1]; omega)
  exact this
theorem sm_z (f : Int → Int) {n : Int} (hn : 0 ≤ n) (h : ∀ i, 0 ≤ i → i < n → f i = 0) : sm f n = 0 := by
  have := sm_b f (A := 0) (B := 0) hn (fun i h1 h2 => by rw [h i h1 h2]; omega)
  omega
theorem fo_tail {α : Type} (g : Int → α → α) (a : α) {n u : Int} (hu : 0 ≤ u ∧ u ≤ n) (h : ∀ i x, u ≤ i → i < n → g i x = x) : fo g a n = fo g a u := by
  have := tele (fun i => fo g a i) (a := u) (n := n) (fun i h1 h2 => by rw [fo_s _ _ (by omega), h i _ h1 h2]) hu.2
  exact this.symm
theorem an_false (p : Int → Bool) {n : Int} (hn : 0 ≤ n) (h : ∀ i, 0 ≤ i → i < n → p i = false) : an p n = false := by
  apply Bool.eq_false_iff.mpr
  intro q
  obtain ⟨i, h1, h2, h3⟩ := (an_iff p hn).mp q
  rw [h i h1 h2] at h3
  cases h3
theorem an_congr (p q : Int → Bool) {n : Int} (h : ∀ i, 0 ≤ i → i < n → p i = q i) : an p n = an q n := fo_congr _ _ _ (fun i x h1 h2 => by rw [h i h1 h2])
theorem an_up (p p' : Int → Bool) {n u : Int} (hu : 0 ≤ u ∧ u < n) (h : ∀ v, 0 ≤ v → v < n → v ≠ u → p' v = p v) (hp : p u = true → p' u = true) : an p' n = (an p n || p' u) := by
  apply Bool.eq_iff_iff.mpr
  rw [Bool.or_eq_true, an_iff p' (by omega), an_iff p (by omega)]
  constructor
  · rintro ⟨i, h1, h2, h3⟩
    by_cases c : i = u
    · subst c; exact Or.inr h3
    · exact Or.inl ⟨i, h1, h2, by rw [← h i h1 h2 c]; exact h3⟩
  · rintro (⟨i, h1, h2, h3⟩ | h3)
    · by_cases c : i = u
      · subst c; exact ⟨i, h1, h2, hp h3⟩
      · exact ⟨i, h1, h2, by rw [h i h1 h2 c]; exact h3⟩
    · exact ⟨u, hu.1, hu.2, h3⟩
/-- woken last, at u or ahead -/
def lwS (S T : Nat → Int → Int) (k u : Int) : Int := fo (fun v x => if (wkS S T k v && asS S k v) = true then v else x) (-1) (u + 1)
/-- readings of a trail -/
def rdT (S : Nat → Int → Int) (al a1 a2 : Int) (si : Int → Int) (T : Nat → Int → Int) (k u : Int) : Int := rqR S al a1 a2 (fun j => lwS S T j u) si k u
/-- a charge by readings -/
def cgG (S L : Nat → Int → Int) (r : Int → Int) (k u : Int) : Int := if r k = -1 then 0 else chS L (if L 0 4 = 0 then r k else mx (fun j => decide (S 3 j = S 3 k ∧ S 4 j = S 4 k)) r (S 0 3)) u (S 3 k) (poS S k u)
def rgT (S T : Nat → Int → Int) (rd : Int → Int → Int) (u k : Int) : Int := if T 2 u = S 3 k ∧ rd k u ≠ -1 then T 3 u else 0
def ctT (S L T : Nat → Int → Int) (rd : Int → Int → Int) (k u : Int) : Int := if S 3 k = T 2 u then T 3 u * cgG S L (fun i => rd i u) k u else 0
def ltT (S T : Nat → Int → Int) (rd : Int → Int → Int) (k : Int) (u x : Int) : Int := if T 2 u = S 3 k ∧ rd k u ≠ -1 then rd k u else x
def abT (S L T : Nat → Int → Int) (rd : Int → Int → Int) (u k : Int) : Bool := decide (T 2 u = S 3 k ∧ rd k u ≠ -1 ∧ L 0 0 < rd k u)
/-- the reference's rows behind some acts, by the trail's rows -/
def RN (S L : Nat → Int → Int) (rd : Int → Int → Int) (T M : Nat → Int → Int) : Prop :=
  (M 0 25 = T 0 0 ∧ M 0 26 = T 0 1)
  ∧ M 0 27 = sm (fun u => sm (rgT S T rd u) (S 0 3)) 36
  ∧ M 0 28 = sm (fun k => sm (fun u => b2i (wkS S T k u && asS S k u)) 36) (S 0 3)
  ∧ (∀ w, 0 ≤ w → w < 9 → M 13 w = sm (fun j => sm (rgT S T rd (w * 4 + j)) (S 0 3)) 4)
  ∧ (∀ k, 0 ≤ k → k < S 0 3 → M 9 k = lwS S T k 35)
  ∧ (∀ k, 0 ≤ k → k < S 0 3 → M 11 k = fo (ltT S T rd k) (-1) 36)
  ∧ (M 0 31 = 1 → (∀ k, 0 ≤ k → k < S 0 3 → M 10 k = sm (ctT S L T rd k) 36) ∧ M 0 30 = b2i (an (fun u => an (abT S L T rd u) (S 0 3)) 36))
  ∧ (M 0 30 = 0 ∨ M 0 30 = 1)
theorem wkS_c {S T T' : Nat → Int → Int} (h : T' 1 = T 1) : wkS S T' = wkS S T := by
  funext k u
  unfold wkS
  rw [h]
theorem lwS_c {S T T' : Nat → Int → Int} (h : T' 1 = T 1) : lwS S T' = lwS S T := by
  funext k u
  unfold lwS
  rw [wkS_c h]
theorem rdT_c {S T T' : Nat → Int → Int} {al a1 a2 : Int} {si : Int → Int} (h : T' 1 = T 1) : rdT S al a1 a2 si T' = rdT S al a1 a2 si T := by
  funext k u
  unfold rdT
  rw [lwS_c h]
theorem rqR_W {S : Nat → Int → Int} {al a1 a2 k u : Int} {W W' si : Int → Int} (hW : ∀ j, 0 ≤ j → j < S 0 3 → W j = W' j) (hk : 0 ≤ k ∧ k < S 0 3) (hs : -1 ≤ si k ∧ si k < S 0 3) : rqR S al a1 a2 W si k u = rqR S al a1 a2 W' si k u := by
  unfold rqR dpR
  rw [hW k hk.1 hk.2]
  by_cases c : si k = -1
  · simp [c]
  · rw [hW (si k) (by omega) (by omega)]
/-- what counts, of a whole house's readings -/
theorem coR_mx {S L : Nat → Int → Int} {N r : Int → Int} {h k : Int} (hn : 0 ≤ S 0 3) (hk : 0 ≤ k ∧ k < S 0 3) (hh : S 3 k = h) (hr : ∀ i, 0 ≤ i → i < S 0 3 → -1 ≤ r i) (hN : ∀ i, 0 ≤ i → i < S 0 3 → N i = if S 3 i = h then r i else -1) (h1 : r k ≠ -1) : coR N S L k = if L 0 4 = 0 then r k else mx (fun j => decide (S 3 j = S 3 k ∧ S 4 j = S 4 k)) r (S 0 3) := by
  have nk : N k = r k := by rw [hN k hk.1 hk.2, if_pos hh]
  unfold coR
  by_cases c : L 0 4 = 0
  · rw [if_pos c, if_pos c, nk]
  · rw [if_neg c, if_neg c]
    symm
    have key : ∀ n : Int, 0 ≤ n → n ≤ S 0 3 → let x := fo (fun i v => if N i ≠ -1 ∧ S 4 i = S 4 k ∧ v < N i then N i else v) (N k) n; (N k ≤ x ∧ (∀ i, 0 ≤ i → i < n → N i ≠ -1 → S 4 i = S 4 k → N i ≤ x)) ∧ (x = N k ∨ ∃ i, 0 ≤ i ∧ i < n ∧ N i ≠ -1 ∧ S 4 i = S 4 k ∧ x = N i) := by
      intro n hn0 hn1
      refine fo_ind (fun n x => (N k ≤ x ∧ (∀ i, 0 ≤ i → i < n → N i ≠ -1 → S 4 i = S 4 k → N i ≤ x)) ∧ (x = N k ∨ ∃ i, 0 ≤ i ∧ i < n ∧ N i ≠ -1 ∧ S 4 i = S 4 k ∧ x = N i)) _ _ hn0 ⟨⟨Int.le_refl _, fun i g1 g2 => by omega⟩, Or.inl rfl⟩ ?_
      intro i x g1 g2 ⟨⟨z1, z2⟩, z3⟩
      by_cases c2 : N i ≠ -1 ∧ S 4 i = S 4 k ∧ x < N i
      · rw [if_pos c2]
        refine ⟨⟨by omega, fun j y1 y2 y3 y4 => ?_⟩, Or.inr ⟨i, g1, by omega, c2.1, c2.2.1, rfl⟩⟩
        by_cases e : j = i
        · subst e; omega
        · have := z2 j y1 (by omega) y3 y4; omega
      · rw [if_neg c2]
        refine ⟨⟨z1, fun j y1 y2 y3 y4 => ?_⟩, ?_⟩
        · by_cases e : j = i
          · subst e; exact Int.not_lt.mp (fun q => c2 ⟨y3, y4, q⟩)
          · exact z2 j y1 (by omega) y3 y4
        · rcases z3 with z3 | ⟨j, y1, y2, y3, y4, y5⟩
          · exact Or.inl z3
          · exact Or.inr ⟨j, y1, by omega, y3, y4, y5⟩
    have hx := key (S 0 3) hn (Int.le_refl _)
    dsimp only at hx
    obtain ⟨⟨z1, z2⟩, z3⟩ := hx
    refine mx_eq _ _ hn ?_ ?_ ?_
    · have := hr k hk.1 hk.2; omega
    · intro i g1 g2 g3
      rw [decide_eq_true_eq] at g3
      have ni : N i = r i := by rw [hN i g1 g2, if_pos (by omega)]
      by_cases e : r i = -1
      · have := hr k hk.1 hk.2; omega
      · rw [← ni]; exact z2 i g1 g2 (by rw [ni]; exact e) g3.2
    · right
      rcases z3 with z3 | ⟨j, y1, y2, y3, y4, y5⟩
      · exact ⟨k, hk.1, hk.2, by simp, by omega⟩
      · have nj := hN j y1 y2
        by_cases e : S 3 j = h
        · rw [if_pos e] at nj
          exact ⟨j, y1, y2, by rw [decide_eq_true_eq]; omega, by omega⟩
        · rw [if_neg e] at nj; exact absurd nj y3
