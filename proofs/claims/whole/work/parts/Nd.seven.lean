/-! LIES OF ALL: the deeper one sleeps, the more is due -/
section MONO
variable {S L T : Nat → Int → Int} {D D' si : Int → Int} {k u : Int}
theorem mx_mo (p : Int → Bool) (f g : Int → Int) {n : Int} (hn : 0 ≤ n) (h : ∀ i, 0 ≤ i → i < n → f i ≤ g i) : mx p f n ≤ mx p g n := by
  obtain ⟨a1, a2, a3⟩ := mx_sp p f hn
  obtain ⟨b1, b2, b3⟩ := mx_sp p g hn
  rcases a3 with a3 | ⟨i, q1, q2, q3, q4⟩
  · omega
  · have := h i q1 q2
    have := b2 i q1 q2 q3
    omega
theorem ch_mo (hLV : LV L) {r r' h : Int} {p : Bool} (hr : r ≤ r') (hu : 0 ≤ u ∧ u < 36) : chS L r u h p ≤ chS L r' u h p := by
  have l := hLV.2 (u / 4) (by omega) (by omega)
  unfold chS
  split
  · omega
  · have : (if 0 < r - L 0 0 then r - L 0 0 else 0) * L 1 (u / 4) ≤ (if 0 < r' - L 0 0 then r' - L 0 0 else 0) * L 1 (u / 4) := Int.mul_le_mul_of_nonneg_right (by split <;> split <;> omega) (by omega)
    omega
/-- depths of all who are there are no less -/
def dLe (S : Nat → Int → Int) (D D' : Int → Int) : Prop := ∀ k u, 0 ≤ k → k < S 0 3 → 0 ≤ u → u < 36 → -1 ≤ D (k * 36 + u) ∧ D (k * 36 + u) ≤ D' (k * 36 + u) ∧ D' (k * 36 + u) ≤ 100
theorem rd_mo (hd : dLe S D D') (hs : SIo S si) (hk : 0 ≤ k ∧ k < S 0 3) (hu : 0 ≤ u ∧ u < 36) : -1 ≤ rdS S D si k u ∧ rdS S D si k u ≤ rdS S D' si k u ∧ rdS S D' si k u ≤ 100 := by
  have a := hd k u hk.1 hk.2 hu.1 hu.2
  have s := hs k hk.1 hk.2
  have b : si k ≠ -1 → -1 ≤ D (si k * 36 + u) ∧ D (si k * 36 + u) ≤ D' (si k * 36 + u) ∧ D' (si k * 36 + u) ≤ 100 := fun z => hd (si k) u (by omega) (by omega) hu.1 hu.2
  unfold rdS
  generalize D (k * 36 + u) = x at *
  generalize D' (k * 36 + u) = y at *
  generalize D (si k * 36 + u) = x' at *
  generalize D' (si k * 36 + u) = y' at *
  by_cases c4 : si k = -1
  · grind
  · have := b c4
    grind
theorem cg_mo (hV : SV S) (hLV : LV L) (hd : dLe S D D') (hs : SIo S si) (hk : 0 ≤ k ∧ k < S 0 3) (hu : 0 ≤ u ∧ u < 36) : 0 ≤ cgS S L D si k u ∧ cgS S L D si k u ≤ cgS S L D' si k u := by
  have v := hV.1
  have a := rd_mo hd hs hk hu
  have bb : bdS S D si u (S 3 k) (S 4 k) ≤ bdS S D' si u (S 3 k) (S 4 k) := mx_mo _ _ _ (by omega) (fun j q1 q2 => (rd_mo hd hs ⟨q1, q2⟩ hu).2.1)
  have b1 := mx_b (fun j => decide (S 3 j = S 3 k ∧ S 4 j = S 4 k)) (fun j => rdS S D si j u) (n := S 0 3) (B := 100) (by omega) (by omega) (fun j q1 q2 _ => by have := rd_mo hd hs ⟨q1, q2⟩ hu; omega)
  have b2 := mx_b (fun j => decide (S 3 j = S 3 k ∧ S 4 j = S 4 k)) (fun j => rdS S D' si j u) (n := S 0 3) (B := 100) (by omega) (by omega) (fun j q1 q2 _ => by have := rd_mo hd hs ⟨q1, q2⟩ hu; omega)
  have c0 : ∀ X r, -1 ≤ r ∧ r ≤ 100 → 0 ≤ chS L r u (S 3 k) X := fun X r h => (chS_b hLV h hu).1
  unfold cgS
  by_cases c1 : rdS S D si k u = -1
  · rw [if_pos c1]
    refine ⟨by omega, ?_⟩
    split
    · omega
    · refine c0 _ _ ?_
      split
      · omega
      · exact b2
  · have c2 : ¬ rdS S D' si k u = -1 := by omega
    rw [if_neg c1, if_neg c2]
    refine ⟨c0 _ _ ?_, ch_mo hLV ?_ hu⟩
    · split
      · omega
      · exact b1
    · split
      · exact a.2.1
      · exact bb
theorem due_mo (hV : SV S) (hLV : LV L) (hT : TV T) (hd : dLe S D D') (hs : SIo S si) (hk : 0 ≤ k ∧ k < S 0 3) : dueS S L T D si k ≤ dueS S L T D' si k := by
  have key : ∀ m : Nat, (m : Int) ≤ T 0 7 → dzS S L T D si k m ≤ dzS S L T D' si k m := by
    intro m
    induction m with
    | zero => intro _; exact Int.le_refl _
    | succ m ih =>
      intro h
      have i := ih (by omega)
      have e1 : dzS S L T D si k ((m : Int) + 1) = dzS S L T D si k m + ctS S L T D si k (T 4 m) := sm_s _ (by omega)
      have e2 : dzS S L T D' si k ((m : Int) + 1) = dzS S L T D' si k m + ctS S L T D' si k (T 4 m) := sm_s _ (by omega)
      rw [show ((m + 1 : Nat) : Int) = (m : Int) + 1 by omega, e1, e2]
      have t4 := hT.2.2 m (by omega) (by omega)
      have t3 := hT.2.1 (T 4 m) t4.1.1 t4.1.2
      have c := cg_mo hV hLV hd hs hk t4.1
      have : ctS S L T D si k (T 4 m) ≤ ctS S L T D' si k (T 4 m) := by
        unfold ctS
        split
        · exact Int.mul_le_mul_of_nonneg_left c.2 (by omega)
        · omega
      omega
  have := key (T 0 7).toNat (by have := hT.1; omega)
  rw [show (((T 0 7).toNat : Nat) : Int) = T 0 7 by have := hT.1; omega] at this
  unfold dueS
  split <;> split <;> omega
theorem due_cg (hV : SV S) (hLV : LV L) (hT : TV T) (hd : dLe S D D') (hd' : dLe S D' D) (hs : SIo S si) (hk : 0 ≤ k ∧ k < S 0 3) : dueS S L T D si k = dueS S L T D' si k := by
  have a := due_mo hV hLV hT hd hs hk
  have b := due_mo hV hLV hT hd' hs hk
  omega
end MONO
section LIES
variable {S L T : Nat → Int → Int} {si g : Int → Int} {k u n m : Int}
def LAQ (S T : Nat → Int → Int) (k li u : Int) : Int := dpS (S7 S (fun _ => li)) T k u
def mnQ (f : Int → Int) (n : Int) : Int := fo (fun i x => if f i < x then f i else x) 100000000 n
theorem mnQ_s {f : Int → Int} (hn : 0 ≤ n) : mnQ f (n + 1) = if f n < mnQ f n then f n else mnQ f n := fo_s _ _ hn
theorem mnQ_b {f : Int → Int} {A : Int} (hn : 0 ≤ n) (hA : A ≤ 100000000) (h : ∀ i, 0 ≤ i → i < n → A ≤ f i) : A ≤ mnQ f n := by
  refine fo_ind (fun _ (x : Int) => A ≤ x) _ _ hn hA (fun i x q1 q2 q3 => ?_)
  have := h i q1 q2
  split <;> omega
theorem mnQ_l {f : Int → Int} {i : Int} (hi : 0 ≤ i ∧ i < n) : mnQ f n ≤ f i := by
  obtain ⟨m, rfl⟩ : ∃ m : Nat, n = m := ⟨n.toNat, by omega⟩
  induction m with
  | zero => omega
  | succ m ih =>
    rw [show ((m + 1 : Nat) : Int) = (m : Int) + 1 by omega, mnQ_s (by omega)]
    by_cases c : i = m
    · rw [c]; split <;> omega
    · have := ih (by omega)
      split <;> omega
def DZQ (S T : Nat → Int → Int) (k u : Int) : Int := mnQ (fun li => LAQ S T k li u) 9
/-- those ahead of m lie down so; the others doze -/
def D7 (S T : Nat → Int → Int) (m : Int) (g : Int → Int) : Int → Int := fun i => if i / 36 < m then LAQ S T (i / 36) (g (i / 36)) (i % 36) else DZQ S T (i / 36) (i % 36)
/-- one lies down so; the others doze -/
def D1 (S T : Nat → Int → Int) (j li : Int) : Int → Int := fun i => if i / 36 = j then LAQ S T j li (i % 36) else DZQ S T (i / 36) (i % 36)
theorem D7_v (hu : 0 ≤ u ∧ u < 36) : D7 S T m g (k * 36 + u) = if k < m then LAQ S T k (g k) u else DZQ S T k u := by
  unfold D7
  rw [show (k * 36 + u) / 36 = k by omega, show (k * 36 + u) % 36 = u by omega]
theorem D1_v {j li : Int} (hu : 0 ≤ u ∧ u < 36) : D1 S T j li (k * 36 + u) = if k = j then LAQ S T j li u else DZQ S T k u := by
  unfold D1
  rw [show (k * 36 + u) / 36 = k by omega, show (k * 36 + u) % 36 = u by omega]
theorem LAQ_b (hV : SV S) {li : Int} (hl : 0 ≤ li ∧ li ≤ 8) (hk : 0 ≤ k ∧ k < S 0 3) (hu : 0 ≤ u ∧ u < 36) : -1 ≤ LAQ S T k li u ∧ LAQ S T k li u ≤ 100 := dpS_b (S7_V hV (fun _ _ _ => hl)) hk hu
theorem DZQ_b (hV : SV S) (hk : 0 ≤ k ∧ k < S 0 3) (hu : 0 ≤ u ∧ u < 36) : -1 ≤ DZQ S T k u ∧ (∀ li, 0 ≤ li → li ≤ 8 → DZQ S T k u ≤ LAQ S T k li u) ∧ DZQ S T k u ≤ 100 := by
  have a : ∀ li, 0 ≤ li → li ≤ 8 → DZQ S T k u ≤ LAQ S T k li u := fun li q1 q2 => mnQ_l (f := fun li => LAQ S T k li u) (by omega)
  have b := a 0 (by omega) (by omega)
  have c := LAQ_b (T := T) (li := 0) hV (by omega) hk hu
  exact ⟨mnQ_b (by omega) (by omega) (fun i q1 q2 => (LAQ_b (T := T) (li := i) hV (by omega) hk hu).1), a, by omega⟩
/-- depths of one are his own -/
theorem dpS_7 {g' : Int → Int} (h : g k = g' k) : dpS (S7 S g) T k u = dpS (S7 S g') T k u := by
  have e5 : S7 S g 5 k = S7 S g' 5 k := h
  have e6 : S7 S g 6 k = S7 S g' 6 k := by rw [S7_6, S7_6, h]
  have ew : ∀ x y, wbS (S7 S g) k x y = wbS (S7 S g') k x y := fun _ _ => rfl
  have eu : upS (S7 S g) k = upS (S7 S g') k := by
    unfold upS
    rw [e6, ew]
  have ea : asS (S7 S g) k u = asS (S7 S g') k u := by
    unfold asS
    rw [e5, eu]
  have es : snS (S7 S g) T k (u + 1) = snS (S7 S g') T k (u + 1) := by
    unfold snS
    rw [e5]
    rfl
  unfold dpS
  rw [ea, es]
  rfl
theorem D7_DT (hn : m = S 0 3) : DT (S7 S g) T (D7 S T m g) := by
  intro k u q1 q2 q3 q4
  have q2' : k < S 0 3 := q2
  rw [D7_v ⟨q3, q4⟩, if_pos (by omega)]
  exact dpS_7 rfl
theorem F7_due (hV : SV S) (hZ : TZ T) (hg : ∀ k, 0 ≤ k → k < S 0 3 → 0 ≤ g k ∧ g k ≤ 8) (hs : ∀ k, 0 ≤ k → k < S 0 3 → si k = siS S k) : F7 S L T g = sm (fun j => dueS S L T (D7 S T (S 0 3) g) si j) (S 0 3) := by
  have h7 := S7_V hV hg
  have so : SIo (S7 S g) si := fun j q1 q2 => by
    have q2' : j < S 0 3 := q2
    rw [hs j q1 q2']
    exact siS_SIo hV j q1 q2'
  refine sm_congr _ _ (fun j q1 q2 => ?_)
  have e := due_link (L := L) h7 hZ (D7_DT (T := T) (g := g) (m := S 0 3) rfl) so (k := j) ⟨q1, q2⟩
  have e2 : dueS (S7 S g) L T (D7 S T (S 0 3) g) si j = dueS S L T (D7 S T (S 0 3) g) si j := rfl
  rw [e2] at e
  rw [e]
  exact dueT_si (S := S7 S g) ⟨q1, q2⟩ (fun i z1 z2 => (hs i z1 z2).symm)
/-- the least of one, all others dozing -/
def alQ7 (S L T : Nat → Int → Int) (si : Int → Int) (j : Int) : Int := mnQ (fun li => dueS S L T (D1 S T j li) si j) 9
/-- what is due at least -/
def LBQ (S L T : Nat → Int → Int) (si g : Int → Int) (k : Int) : Int := sm (fun j => if j ≤ k then dueS S L T (D7 S T (k + 1) g) si j else if dueS S L T (D7 S T (k + 1) g) si j < alQ7 S L T si j then alQ7 S L T si j else dueS S L T (D7 S T (k + 1) g) si j) (S 0 3)
theorem LB_le (hV : SV S) (hLV : LV L) (hT : TV T) (hs : SIo S si) {g' : Int → Int} (hk : 0 ≤ k) (hg : ∀ j, 0 ≤ j → j < S 0 3 → 0 ≤ g' j ∧ g' j ≤ 8) (he : ∀ j, 0 ≤ j → j ≤ k → g j = g' j) : LBQ S L T si g k ≤ sm (fun j => dueS S L T (D7 S T (S 0 3) g') si j) (S 0 3) := by
  have v := hV.1
  have le1 : dLe S (D7 S T (k + 1) g) (D7 S T (S 0 3) g') := fun j u q1 q2 q3 q4 => by
    rw [D7_v ⟨q3, q4⟩, D7_v ⟨q3, q4⟩, if_pos q2]
    have gb := hg j q1 q2
    have lb := LAQ_b (T := T) (li := g' j) hV gb ⟨q1, q2⟩ ⟨q3, q4⟩
    have db := DZQ_b (T := T) hV ⟨q1, q2⟩ ⟨q3, q4⟩
    split
    · rw [he j q1 (by omega)]; omega
    · have := db.2.1 (g' j) gb.1 gb.2
      omega
  have le2 : ∀ j, 0 ≤ j → j < S 0 3 → dLe S (D1 S T j (g' j)) (D7 S T (S 0 3) g') := fun j z1 z2 i u q1 q2 q3 q4 => by
    rw [D1_v ⟨q3, q4⟩, D7_v ⟨q3, q4⟩, if_pos q2]
    have gb := hg i q1 q2
    have lb := LAQ_b (T := T) (li := g' i) hV gb ⟨q1, q2⟩ ⟨q3, q4⟩
    have db := DZQ_b (T := T) hV ⟨q1, q2⟩ ⟨q3, q4⟩
    split
    · rename_i c; rw [c] at lb ⊢; omega
    · have := db.2.1 (g' i) gb.1 gb.2
      omega
  have key : ∀ p : Nat, (p : Int) ≤ S 0 3 → sm (fun j => if j ≤ k then dueS S L T (D7 S T (k + 1) g) si j else if dueS S L T (D7 S T (k + 1) g) si j < alQ7 S L T si j then alQ7 S L T si j else dueS S L T (D7 S T (k + 1) g) si j) p ≤ sm (fun j => dueS S L T (D7 S T (S 0 3) g') si j) p := by
    intro p
    induction p with
    | zero => intro _; exact Int.le_refl _
    | succ p ih =>
      intro h
      have i := ih (by omega)
      rw [show ((p + 1 : Nat) : Int) = (p : Int) + 1 by omega, sm_s _ (by omega), sm_s _ (by omega)]
      have a := due_mo hV hLV hT le1 hs (k := (p : Int)) (by omega)
      have b := due_mo hV hLV hT (le2 p (by omega) (by omega)) hs (k := (p : Int)) (by omega)
      have gb := hg p (by omega) (by omega)
      have c : alQ7 S L T si p ≤ dueS S L T (D1 S T p (g' p)) si p := mnQ_l (f := fun li => dueS S L T (D1 S T p li) si p) (i := g' p) (by omega)
      have : (if (p : Int) ≤ k then dueS S L T (D7 S T (k + 1) g) si p else if dueS S L T (D7 S T (k + 1) g) si p < alQ7 S L T si p then alQ7 S L T si p else dueS S L T (D7 S T (k + 1) g) si p) ≤ dueS S L T (D7 S T (S 0 3) g') si p := by
        split
        · exact a
        · split <;> omega
      omega
  have := key (S 0 3).toNat (by omega)
  rw [show (((S 0 3).toNat : Nat) : Int) = S 0 3 by omega] at this
  exact this
theorem LB_eq (hk : k + 1 = S 0 3) : LBQ S L T si g k = sm (fun j => dueS S L T (D7 S T (S 0 3) g) si j) (S 0 3) := sm_congr _ _ (fun j q1 q2 => by
  rw [if_pos (by omega), hk])
end LIES
/-! folds over numbers in a row -/
theorem fr_app {α : Type} (g : Int → α → α) (b : α) {a m n : Int} (h : a ≤ m ∧ m ≤ n) : fr g b a n = fr g (fr g b a m) m n := by
  obtain ⟨j, rfl⟩ : ∃ j : Nat, m = a + j := ⟨(m - a).toNat, by omega⟩
  have h2 := h.2
  clear h
  induction j generalizing a b with
  | zero => rw [show a + ((0 : Nat) : Int) = a by omega, fr_n]
  | succ j ih =>
    rw [fr_s g b (a := a) (n := n) (by omega), fr_s g b (a := a) (n := a + ((j + 1 : Nat) : Int)) (by omega)]
    have := ih (b := g a b) (a := a + 1) (by omega)
    rw [show a + 1 + (j : Int) = a + ((j + 1 : Nat) : Int) by omega] at this
    exact this
theorem fr_id {α : Type} (g : Int → α → α) (b : α) {a n : Int} (h : ∀ c, a ≤ c → c < n → g c b = b) : fr g b a n = b := by
  unfold fr
  by_cases c : 0 ≤ n - a
  · refine fo_ind (fun _ x => x = b) _ _ c rfl (fun i x q1 q2 q3 => ?_)
    rw [q3]
    exact h (a + i) (by omega) (by omega)
  · exact fo_z _ _ (by omega)
def stF (F : Int → Int) (c : Int) (p : Int × Int) : Int × Int := if p.1 = -1 ∨ F c < p.1 then (F c, c) else p
theorem svQ_fr {F : Int → Int} {N : Int} : svQ F N = fr (stF F) (-1, 0) 0 N := (fr_0 (stF F) (-1, 0) N).symm
/-- digits of numbers -/
theorem lsQ_0 {n c k j : Int} (hk : 0 ≤ k ∧ k ≤ n) (hc : 0 ≤ c) (hj : 0 ≤ j ∧ j < k) : lsQ n c j = lsQ k (c / p9 (n - k)) j := by
  unfold lsQ
  have e : p9 (n - 1 - j) = p9 (n - k) * p9 (k - 1 - j) := by
    unfold p9
    rw [show (n - 1 - j).toNat = (n - k).toNat + (k - 1 - j).toNat by omega, Nat.pow_add]
    push_cast
    rfl
  rw [e, Int.ediv_ediv_of_nonneg (by have := p9_p (n - k); omega)]
theorem lsQ_s {c k j li : Int} (hk : 0 ≤ k) (hc : 0 ≤ c) (hl : 0 ≤ li ∧ li < 9) (hj : 0 ≤ j ∧ j < k) : lsQ (k + 1) (c * 9 + li) j = lsQ k c j := by
  rw [lsQ_0 (n := k + 1) (k := k) (by omega) (by omega) hj, show k + 1 - k = 1 by omega, show p9 1 = 9 from rfl, show (c * 9 + li) / 9 = c by omega]
theorem lsQ_k {c k li : Int} (hk : 0 ≤ k) (hc : 0 ≤ c) (hl : 0 ≤ li ∧ li < 9) : lsQ (k + 1) (c * 9 + li) k = li := by
  unfold lsQ
  rw [show k + 1 - 1 - k = 0 by omega, show p9 0 = 1 from rfl, Int.ediv_one]
  omega
