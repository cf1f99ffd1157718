/-! THE FEWEST UNITS between houses -/
def fw0 (S : Nat → Int → Int) (inf h k : Int) : Int := if h = k then 0 else if S 1 (h * 8 + k) = 0 then inf else S 1 (h * 8 + k)
def fwT (v : Int) (d : Int → Int → Int) : Int → Int → Int := fun h k => if d h v + d v k < d h k then d h v + d v k else d h k
def fwQ (S : Nat → Int → Int) (inf n : Int) : Int → Int → Int := fo (fun v d => fwT v d) (fw0 S inf) n
theorem fwQ_s {S : Nat → Int → Int} {inf n : Int} (h : 0 ≤ n) : fwQ S inf (n + 1) = fwT n (fwQ S inf n) := fo_s _ _ h
theorem smb_lt (p q : Int → Bool) {n a : Int} (ha : 0 ≤ a ∧ a < n) (h : ∀ x, 0 ≤ x → x < n → p x = true → q x = true) (hp : p a = false) (hq : q a = true) : sm (fun x => b2i (p x)) n + 1 ≤ sm (fun x => b2i (q x)) n := by
  have key : ∀ j : Nat, (j : Int) ≤ n → sm (fun x => b2i (p x)) j + (if a < j then 1 else 0) ≤ sm (fun x => b2i (q x)) j := by
    intro j
    induction j with
    | zero => intro _; rw [if_neg (by omega)]; exact Int.le_refl _
    | succ j ih =>
      intro hj
      have e : ((j + 1 : Nat) : Int) = (j : Int) + 1 := by omega
      have := ih (by omega)
      rw [e, sm_s _ (by omega), sm_s _ (by omega)]
      by_cases c : a = j
      · subst c
        rw [if_neg (by omega)] at this
        rw [hp, hq, if_pos (by omega)]
        simp only [b2i_t, b2i_f]
        omega
      · have h2 : b2i (p j) ≤ b2i (q j) := by
          have := h j (by omega) (by omega)
          cases hpj : p j
          · have := b2i_r (q j); rw [b2i_f]; omega
          · rw [this hpj]; omega
        by_cases c2 : a < j
        · rw [if_pos c2] at this
          rw [if_pos (by omega)]
          omega
        · rw [if_neg c2] at this
          rw [if_neg (by omega)]
          omega
  have := key n.toNat (by omega)
  rw [show ((n.toNat : Nat) : Int) = n by omega, if_pos ha.2] at this
  exact this
theorem smb_n {n : Int} (hn : 0 ≤ n) : sm (fun _ => b2i true) n = n := by
  refine fo_ind (fun i x => x = i) _ _ hn rfl ?_
  intro i x h1 h2 h3
  rw [h3, b2i_t]
section FW
variable {S : Nat → Int → Int} {inf : Int}
theorem fw_b (hV : SV S) (hi : 9 ≤ inf) {n h k : Int} (hn : 0 ≤ n ∧ n ≤ 8) (hh : 0 ≤ h ∧ h < 8) (hk : 0 ≤ k ∧ k < 8) : (0 ≤ fwQ S inf n h k ∧ fwQ S inf n h k ≤ inf) ∧ (h = k → fwQ S inf n h k = 0) := by
  have key : ∀ j : Nat, (j : Int) ≤ 8 → ∀ h k, 0 ≤ h → h < 8 → 0 ≤ k → k < 8 → (0 ≤ fwQ S inf j h k ∧ fwQ S inf j h k ≤ inf) ∧ (h = k → fwQ S inf j h k = 0) := by
    intro j
    induction j with
    | zero =>
      intro _ h k h1 h2 h3 h4
      have := hV.2.1 (h * 8 + k) (by omega) (by omega)
      show (0 ≤ fw0 S inf h k ∧ fw0 S inf h k ≤ inf) ∧ (h = k → fw0 S inf h k = 0)
      unfold fw0
      grind
    | succ j ih =>
      intro hj h k h1 h2 h3 h4
      have e : ((j + 1 : Nat) : Int) = (j : Int) + 1 := by omega
      rw [e, fwQ_s (by omega)]
      have a := ih (by omega) h k h1 h2 h3 h4
      have b := ih (by omega) h j h1 h2 (by omega) (by omega)
      have c := ih (by omega) j k (by omega) (by omega) h3 h4
      unfold fwT
      grind
  have := key n.toNat (by omega) h k hh.1 hh.2 hk.1 hk.2
  rwa [show ((n.toNat : Nat) : Int) = n by omega] at this
/-- rows and columns of the house between stay -/
theorem fwT_r {d : Int → Int → Int} {v h : Int} (hd : d v v = 0) : fwT v d h v = d h v := by
  unfold fwT
  rw [hd, if_neg (by omega)]
theorem fwT_l {d : Int → Int → Int} {v k : Int} (hd : d v v = 0) : fwT v d v k = d v k := by
  unfold fwT
  rw [hd, if_neg (by omega)]
theorem fw_m (hV : SV S) (hi : 9 ≤ inf) {i n h k : Int} (hin : 0 ≤ i ∧ i ≤ n) : fwQ S inf n h k ≤ fwQ S inf i h k := by
  obtain ⟨m, rfl⟩ : ∃ m : Nat, n = i + m := ⟨(n - i).toNat, by omega⟩
  have h0 := hin.1
  clear hin
  induction m with
  | zero => rw [show i + ((0 : Nat) : Int) = i by omega]; omega
  | succ m ih =>
    rw [show i + ((m + 1 : Nat) : Int) = i + m + 1 by omega, fwQ_s (by omega)]
    unfold fwT
    split <;> omega
theorem fw_tri (hV : SV S) (hi : 9 ≤ inf) {n a b c : Int} (hn : 0 ≤ n ∧ n ≤ 8) (ha : 0 ≤ a ∧ a < 8) (hb : 0 ≤ b ∧ b < 8) (hc : 0 ≤ c ∧ c < n) : fwQ S inf n a b ≤ fwQ S inf n a c + fwQ S inf n c b := by
  have key : ∀ j : Nat, (j : Int) ≤ 8 → ∀ a b c : Int, 0 ≤ a → a < 8 → 0 ≤ b → b < 8 → 0 ≤ c → c < j → fwQ S inf j a b ≤ fwQ S inf j a c + fwQ S inf j c b := by
    intro j
    induction j with
    | zero => intro _ a b c _ _ _ _ h1 h2; omega
    | succ j ih =>
      intro hj a b c h1 h2 h3 h4 h5 h6
      have e : ((j + 1 : Nat) : Int) = (j : Int) + 1 := by omega
      rw [e, fwQ_s (by omega)]
      have z := (fw_b hV hi (n := j) (h := j) (k := j) (by omega) (by omega) (by omega)).2 rfl
      by_cases cj : c = j
      · rw [cj, fwT_r z, fwT_l z]
        unfold fwT
        split <;> omega
      · have i1 := ih (by omega) a b c h1 h2 h3 h4 h5 (by omega)
        have i2 := ih (by omega) j b c (by omega) (by omega) h3 h4 h5 (by omega)
        have i3 := ih (by omega) a j c h1 h2 (by omega) (by omega) h5 (by omega)
        have n1 := (fw_b hV hi (n := j) (h := j) (k := c) (by omega) (by omega) (by omega)).1
        have n2 := (fw_b hV hi (n := j) (h := c) (k := j) (by omega) (by omega) (by omega)).1
        unfold fwT
        split <;> split <;> split <;> omega
  have := key n.toNat (by omega) a b c ha.1 ha.2 hb.1 hb.2 hc.1 (by omega)
  rwa [show ((n.toNat : Nat) : Int) = n by omega] at this
/-- the first door of the shortest way -/
theorem fw_att (hV : SV S) (hi : 9 ≤ inf) {n a b : Int} (hn : 0 ≤ n ∧ n ≤ 8) (ha : 0 ≤ a ∧ a < n) (hb : 0 ≤ b ∧ b < n) (hab : a ≠ b) (hf : fwQ S inf n a b < inf) : ∃ c, 0 ≤ c ∧ c < n ∧ S 1 (a * 8 + c) ≠ 0 ∧ S 1 (a * 8 + c) + fwQ S inf n c b ≤ fwQ S inf n a b := by
  have key : ∀ j : Nat, (j : Int) ≤ n → ∀ a b, 0 ≤ a → a < n → 0 ≤ b → b < n → a ≠ b → fwQ S inf j a b < inf → ∃ c, 0 ≤ c ∧ c < n ∧ S 1 (a * 8 + c) ≠ 0 ∧ S 1 (a * 8 + c) + fwQ S inf n c b ≤ fwQ S inf j a b := by
    intro j
    induction j with
    | zero =>
      intro _ a b h1 h2 h3 h4 h5 h6
      have e : fwQ S inf ((0 : Nat) : Int) a b = fw0 S inf a b := rfl
      rw [e] at h6 ⊢
      unfold fw0 at h6 ⊢
      rw [if_neg h5] at h6 ⊢
      by_cases c0 : S 1 (a * 8 + b) = 0
      · rw [if_pos c0] at h6; omega
      · rw [if_neg c0] at h6 ⊢
        have z := (fw_b hV hi (n := n) (h := b) (k := b) hn (by omega) (by omega)).2 rfl
        exact ⟨b, h3, h4, c0, by rw [z]; omega⟩
    | succ j ih =>
      intro hj a b h1 h2 h3 h4 h5 h6
      have e : ((j + 1 : Nat) : Int) = (j : Int) + 1 := by omega
      rw [e, fwQ_s (by omega)] at h6 ⊢
      unfold fwT at h6 ⊢
      by_cases c0 : fwQ S inf j a j + fwQ S inf j j b < fwQ S inf j a b
      · rw [if_pos c0] at h6 ⊢
        have n1 := (fw_b hV hi (n := j) (h := a) (k := j) (by omega) (by omega) (by omega))
        have n2 := (fw_b hV hi (n := j) (h := j) (k := b) (by omega) (by omega) (by omega))
        have hlt : fwQ S inf j a j < inf := by omega
        by_cases c1 : a = j
        · subst c1
          have := n1.2 rfl
          omega
        · obtain ⟨c, k1, k2, k3, k4⟩ := ih (by omega) a j h1 h2 (by omega) (by omega) c1 hlt
          have t := fw_tri hV hi (n := n) (a := c) (b := b) (c := j) hn (by omega) (by omega) (by omega)
          have m1 := fw_m hV hi (i := j) (n := n) (h := j) (k := b) (by omega)
          exact ⟨c, k1, k2, k3, by omega⟩
      · rw [if_neg c0] at h6 ⊢
        exact ih (by omega) a b h1 h2 h3 h4 h5 h6
  have := key n.toNat (by omega) a b ha.1 ha.2 hb.1 hb.2 hab (by rw [show ((n.toNat : Nat) : Int) = n by omega]; exact hf)
  rwa [show ((n.toNat : Nat) : Int) = n by omega] at this
theorem fw_door (hV : SV S) (hi : 9 ≤ inf) {n a b : Int} (hn : 0 ≤ n ∧ n ≤ 8) (ha : 0 ≤ a ∧ a < 8) (hb : 0 ≤ b ∧ b < 8) (hd : S 1 (a * 8 + b) ≠ 0) : fwQ S inf n a b ≤ S 1 (a * 8 + b) := by
  have h1 := fw_m hV hi (i := 0) (n := n) (h := a) (k := b) (by omega)
  have v := hV.2.1 (a * 8 + b) (by omega) (by omega)
  have e : fwQ S inf 0 a b = fw0 S inf a b := rfl
  rw [e] at h1
  unfold fw0 at h1
  split at h1
  · omega
  · exact h1
/-- no way is longer than 63 -/
theorem fw_63 (hV : SV S) (hi : 9 ≤ inf) {n a b : Int} (hn : 0 ≤ n ∧ n ≤ 8) (ha : 0 ≤ a ∧ a < n) (hb : 0 ≤ b ∧ b < n) (hf : fwQ S inf n a b < inf) : fwQ S inf n a b ≤ 63 := by
  have key : ∀ N : Nat, ∀ a, 0 ≤ a → a < n → fwQ S inf n a b < N → fwQ S inf n a b < inf → fwQ S inf n a b ≤ 9 * sm (fun c => b2i (decide (fwQ S inf n c b < fwQ S inf n a b))) n := by
    intro N
    induction N with
    | zero =>
      intro a h1 h2 h3
      have := (fw_b hV hi (n := n) (h := a) (k := b) hn (by omega) (by omega)).1
      omega
    | succ N ih =>
      intro a h1 h2 h3 h4
      by_cases hab : a = b
      · have z := (fw_b hV hi (n := n) (h := a) (k := b) hn (by omega) (by omega)).2 hab
        have := sm_b (fun c => b2i (decide (fwQ S inf n c b < fwQ S inf n a b))) (n := n) (A := 0) (B := 1) hn.1 (fun i _ _ => b2i_r _)
        omega
      · obtain ⟨c, k1, k2, k3, k4⟩ := fw_att hV hi hn ⟨h1, h2⟩ hb hab h4
        have v := hV.2.1 (a * 8 + c) (by omega) (by omega)
        have i1 := ih c k1 k2 (by omega) (by omega)
        have d1 := fw_door hV hi hn (a := a) (b := c) (by omega) (by omega) k3
        have t := fw_tri hV hi (n := n) (a := a) (b := b) (c := c) hn (by omega) (by omega) ⟨k1, k2⟩
        have r := smb_lt (fun x => decide (fwQ S inf n x b < fwQ S inf n c b)) (fun x => decide (fwQ S inf n x b < fwQ S inf n a b)) (n := n) (a := c) ⟨k1, k2⟩ (fun x _ _ q => by
          rw [decide_eq_true_eq] at q ⊢
          omega) (by rw [decide_eq_false]; omega) (by rw [decide_eq_true_eq]; omega)
        omega
  have h1 := key ((fwQ S inf n a b).toNat + 1) a ha.1 ha.2 (by omega) hf
  have r := smb_lt (fun c => decide (fwQ S inf n c b < fwQ S inf n a b)) (fun _ => true) (n := n) (a := a) ha (fun _ _ _ _ => rfl) (by rw [decide_eq_false]; omega) rfl
  rw [smb_n hn.1] at r
  omega
/-- what is far, and what isn't, whatever far is called -/
theorem fw_rel (hV : SV S) {n h k : Int} (hn : 0 ≤ n ∧ n ≤ 8) (hh : 0 ≤ h ∧ h < 8) (hk : 0 ≤ k ∧ k < 8) : (fwQ S 9999 n h k = 9999 ∧ fwQ S 100000000 n h k = 100000000) ∨ (fwQ S 9999 n h k = fwQ S 100000000 n h k ∧ fwQ S 9999 n h k ≤ 9 * p2 n) := by
  have key : ∀ j : Nat, (j : Int) ≤ 8 → ∀ h k, 0 ≤ h → h < 8 → 0 ≤ k → k < 8 → (fwQ S 9999 j h k = 9999 ∧ fwQ S 100000000 j h k = 100000000) ∨ (fwQ S 9999 j h k = fwQ S 100000000 j h k ∧ fwQ S 9999 j h k ≤ 9 * p2 j) := by
    intro j
    induction j with
    | zero =>
      intro _ h k h1 h2 h3 h4
      have v := hV.2.1 (h * 8 + k) (by omega) (by omega)
      have p0 : p2 ((0 : Nat) : Int) = 1 := by decide
      show (fw0 S 9999 h k = 9999 ∧ fw0 S 100000000 h k = 100000000) ∨ (fw0 S 9999 h k = fw0 S 100000000 h k ∧ fw0 S 9999 h k ≤ 9 * p2 ((0 : Nat) : Int))
      rw [p0]
      unfold fw0
      grind
    | succ j ih =>
      intro hj h k h1 h2 h3 h4
      have e : ((j + 1 : Nat) : Int) = (j : Int) + 1 := by omega
      have ps := p2_s (k := (j : Int)) (by omega)
      have pp := p2_0 (j : Int)
      have pl := p2_le (k := (j : Int)) (m := 7) (by omega)
      have p7 : p2 7 = 128 := by decide
      rw [e, fwQ_s (by omega), fwQ_s (by omega), ps]
      have a := ih (by omega) h k h1 h2 h3 h4
      have b := ih (by omega) h j h1 h2 (by omega) (by omega)
      have c := ih (by omega) j k (by omega) (by omega) h3 h4
      have n1 := (fw_b hV (inf := 9999) (by omega) (n := j) (h := h) (k := j) (by omega) ⟨h1, h2⟩ (by omega)).1
      have n2 := (fw_b hV (inf := 9999) (by omega) (n := j) (h := j) (k := k) (by omega) (by omega) ⟨h3, h4⟩).1
      unfold fwT
      generalize fwQ S 9999 j h k = x1 at *
      generalize fwQ S 9999 j h j = x2 at *
      generalize fwQ S 9999 j j k = x3 at *
      generalize fwQ S 100000000 j h k = y1 at *
      generalize fwQ S 100000000 j h j = y2 at *
      generalize fwQ S 100000000 j j k = y3 at *
      split <;> split <;> omega
  have := key n.toNat (by omega) h k hh.1 hh.2 hk.1 hk.2
  rwa [show ((n.toNat : Nat) : Int) = n by omega] at this
end FW
