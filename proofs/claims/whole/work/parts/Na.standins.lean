/-! STAND-INS, one behind the other -/
theorem sm_sh (f : Int → Int) {a : Int} (ha : 0 ≤ a) : ∀ m : Nat, sm f (a + m) = sm f a + sm (fun d => f (a + d)) m := by
  intro m
  induction m with
  | zero => rw [show a + ((0 : Nat) : Int) = a by omega, show sm (fun d => f (a + d)) ((0 : Nat) : Int) = 0 from rfl]; omega
  | succ m ih => rw [show a + ((m + 1 : Nat) : Int) = a + m + 1 by omega, sm_s _ (by omega), ih, show ((m + 1 : Nat) : Int) = (m : Int) + 1 by omega, sm_s _ (by omega)]; omega
theorem sm_pl (f g : Int → Int) {n : Int} (hn : 0 ≤ n) : sm (fun i => f i + g i) n = sm f n + sm g n := by
  obtain ⟨m, rfl⟩ : ∃ m : Nat, n = m := ⟨n.toNat, by omega⟩
  clear hn
  induction m with
  | zero => rfl
  | succ m ih => rw [show ((m + 1 : Nat) : Int) = (m : Int) + 1 by omega, sm_s _ (by omega), sm_s _ (by omega), sm_s _ (by omega), ih]; omega
theorem sm_10 (f : Int → Int) {n : Int} (hn : 0 ≤ n) : sm f (n * 10) = sm (fun d => sm (fun c => f (c * 10 + d)) n) 10 := by
  obtain ⟨m, rfl⟩ : ∃ m : Nat, n = m := ⟨n.toNat, by omega⟩
  clear hn
  induction m with
  | zero =>
    rw [show ((0 : Nat) : Int) * 10 = 0 by omega]
    rfl
  | succ m ih =>
    have e := sm_sh f (a := (m : Int) * 10) (by omega) 10
    rw [show ((m + 1 : Nat) : Int) * 10 = (m : Int) * 10 + ((10 : Nat) : Int) by omega, e, ih, show ((10 : Nat) : Int) = 10 from rfl, ← sm_pl _ _ (by omega)]
    exact sm_congr _ _ (fun d q1 q2 => by rw [show ((m + 1 : Nat) : Int) = (m : Int) + 1 by omega, sm_s _ (by omega)])
/-- how many rich ones are among the last -/
def rqM (S : Nat → Int → Int) : Nat → Int
  | 0 => 0
  | m + 1 => rqM S m + (if S 2 (S 0 3 - (m + 1)) = 3 then 1 else 0)
theorem rqM_h {S : Nat → Int → Int} : ∀ m : Nat, (m : Int) ≤ S 0 3 → rhQ S (S 0 3 - m) + rqM S m = rhQ S (S 0 3) ∧ 0 ≤ rqM S m ∧ rqM S m ≤ m := by
  intro m
  induction m with
  | zero => intro _; rw [show S 0 3 - ((0 : Nat) : Int) = S 0 3 by omega]; exact ⟨by show rhQ S (S 0 3) + 0 = _; omega, by show (0 : Int) ≤ 0; omega, by show (0 : Int) ≤ _; omega⟩
  | succ m ih =>
    intro h
    obtain ⟨i1, i2, i3⟩ := ih (by omega)
    have e := rhQ_s (S := S) (k := S 0 3 - ((m : Int) + 1)) (by omega)
    rw [show S 0 3 - ((m : Int) + 1) + 1 = S 0 3 - m by omega] at e
    have e2 : rqM S (m + 1) = rqM S m + (if S 2 (S 0 3 - (m + 1)) = 3 then 1 else 0) := rfl
    rw [show S 0 3 - ((m + 1 : Nat) : Int) = S 0 3 - ((m : Int) + 1) by omega, e2]
    split at e <;> rename_i c
    · rw [if_pos c]; omega
    · rw [if_neg c]; omega
/-- in how many ways the last ones may be stood in for -/
def Cn (S : Nat → Int → Int) (m : Nat) (met : Int) : Int := sm (fun c => b2i (stR S m c met)) (p10 (rqM S m))
def okJ (S : Nat → Int → Int) (k met j : Int) : Bool := myQ S k j && !tb met j
section PURE
variable {S L T : Nat → Int → Int} {m : Nat} {met k b0 b1 : Int} {si : Int → Int}
theorem Cn_0 : Cn S 0 met = 1 := by
  unfold Cn
  rw [show p10 (rqM S 0) = 0 + 1 from rfl, sm_s _ (by omega)]
  rfl
theorem Cn_n (hk : S 0 3 - ((m : Int) + 1) = k) (hr : ¬ S 2 k = 3) : Cn S (m + 1) met = Cn S m met := by
  unfold Cn
  have e : rqM S (m + 1) = rqM S m := by
    show rqM S m + (if S 2 (S 0 3 - (m + 1)) = 3 then 1 else 0) = _
    rw [hk, if_neg hr, Int.add_zero]
  rw [e]
  exact sm_congr _ _ (fun c _ _ => by rw [stR_s, hk, if_neg hr])
theorem stR_r (hk : S 0 3 - ((m : Int) + 1) = k) (hr : S 2 k = 3) {c d : Int} (hd : 0 ≤ d ∧ d < 10) : stR S (m + 1) (c * 10 + d) met = if d = 9 then stR S m c met else okJ S k met d && stR S m c (so met (p2 d)) := by
  rw [stR_s, hk, if_pos hr, show (c * 10 + d) % 10 = d by omega, show (c * 10 + d) / 10 = c by omega]
  rfl
theorem Cn_r (hV : SV S) (hm : (m : Int) + 1 ≤ S 0 3) (hk : S 0 3 - ((m : Int) + 1) = k) (hr : S 2 k = 3) : Cn S (m + 1) met = Cn S m met + sm (fun j => if okJ S k met j = true then Cn S m (so met (p2 j)) else 0) (S 0 3) := by
  have v := hV.1
  have e : rqM S (m + 1) = rqM S m + 1 := by
    show rqM S m + (if S 2 (S 0 3 - (m + 1)) = 3 then 1 else 0) = _
    rw [hk, if_pos hr]
  have h0 := (rqM_h (S := S) m (by omega)).2.1
  have pp := p10_p (rqM S m)
  have e1 : Cn S (m + 1) met = sm (fun c => b2i (stR S (m + 1) c met)) (p10 (rqM S m) * 10) := by
    unfold Cn
    rw [e, p10_s h0]
  rw [e1, sm_10 _ (by omega)]
  have e9 := sm_s (fun d => sm (fun c => b2i (stR S (m + 1) (c * 10 + d) met)) (p10 (rqM S m))) (n := 9) (by omega)
  rw [show (9 : Int) + 1 = 10 by omega] at e9
  rw [e9]
  have a1 : sm (fun c => b2i (stR S (m + 1) (c * 10 + 9) met)) (p10 (rqM S m)) = Cn S m met := sm_congr _ _ (fun c _ _ => by rw [stR_r hk hr (by omega), if_pos rfl])
  have a2 : sm (fun d => sm (fun c => b2i (stR S (m + 1) (c * 10 + d) met)) (p10 (rqM S m))) 9 = sm (fun j => if okJ S k met j = true then Cn S m (so met (p2 j)) else 0) 9 := sm_congr _ _ (fun d q1 q2 => by
    cases c : okJ S k met d with
    | true =>
      rw [if_pos rfl]
      exact sm_congr _ _ (fun x _ _ => by rw [stR_r hk hr (by omega), if_neg (by omega), c, Bool.true_and])
    | false =>
      rw [if_neg (by decide)]
      exact sm_z _ (by omega) (fun x _ _ => by rw [stR_r hk hr (by omega), if_neg (by omega), c, Bool.false_and]; rfl))
  have a3 : sm (fun j => if okJ S k met j = true then Cn S m (so met (p2 j)) else 0) 9 = sm (fun j => if okJ S k met j = true then Cn S m (so met (p2 j)) else 0) (S 0 3) := fo_tail _ _ (by omega) (fun j x q1 q2 => by
    have : okJ S k met j = false := by
      unfold okJ myQ
      rw [decide_eq_false (by omega), Bool.false_and]
    dsimp only
    rw [this, if_neg (by decide), Int.add_zero])
  rw [a1, a2, a3]
  omega
/-- the last ones are stood in for -/
def ovS (S : Nat → Int → Int) (si : Int → Int) (m : Nat) (c : Int) : Int → Int := fun j => if S 0 3 - m ≤ j then siR S m c j else si j
/-- the least so far -/
def Mn (S L T : Nat → Int → Int) (m : Nat) (met : Int) (si : Int → Int) (P : Int → Prop) (b0 b1 : Int) : Prop := b1 ≤ b0 ∧ (∀ c, 0 ≤ c → c < p10 (rqM S m) → P c → stR S m c met = true → b1 ≤ G9 S L T (ovS S si m c)) ∧ (b1 = b0 ∨ ∃ c, 0 ≤ c ∧ c < p10 (rqM S m) ∧ P c ∧ stR S m c met = true ∧ b1 = G9 S L T (ovS S si m c))
theorem G9_c {si' : Int → Int} (h : ∀ j, 0 ≤ j → j < S 0 3 → si j = si' j) : G9 S L T si = G9 S L T si' := sm_congr _ _ (fun j q1 q2 => dueT_si ⟨q1, q2⟩ h)
theorem siR_lo : ∀ (m : Nat) (c j : Int), j < S 0 3 - m → siR S m c j = -1 := by
  intro m
  induction m with
  | zero => intro c j _; rfl
  | succ m ih =>
    intro c j h
    rw [siR_s]
    split
    · rw [if_neg (by omega)]
      exact ih _ _ (by omega)
    · exact ih _ _ (by omega)
theorem Mn_P {P Q : Int → Prop} (h : Mn S L T m met si P b0 b1) (hpq : ∀ c, 0 ≤ c → c < p10 (rqM S m) → stR S m c met = true → (P c ↔ Q c)) : Mn S L T m met si Q b0 b1 := by
  obtain ⟨h1, h2, h3⟩ := h
  refine ⟨h1, fun c q1 q2 q3 q4 => h2 c q1 q2 ((hpq c q1 q2 q4).mpr q3) q4, ?_⟩
  rcases h3 with h3 | ⟨c, q1, q2, q3, q4, q5⟩
  · exact Or.inl h3
  · exact Or.inr ⟨c, q1, q2, (hpq c q1 q2 q4).mp q3, q4, q5⟩
theorem Mn_step {P : Int → Prop} {met' b2 dg : Int} {si' : Int → Int} (hr : rqM S (m + 1) = rqM S m + 1) (h0 : 0 ≤ rqM S m) (h1 : Mn S L T (m + 1) met si P b0 b1) (h2 : Mn S L T m met' si' (fun _ => True) b1 b2) (hd : 0 ≤ dg ∧ dg < 10) (hc : ∀ c, 0 ≤ c → c < p10 (rqM S m) → stR S (m + 1) (c * 10 + dg) met = stR S m c met' ∧ G9 S L T (ovS S si (m + 1) (c * 10 + dg)) = G9 S L T (ovS S si' m c)) : Mn S L T (m + 1) met si (fun c => P c ∨ c % 10 = dg) b0 b2 := by
  obtain ⟨a1, a2, a3⟩ := h1
  obtain ⟨c1, c2, c3⟩ := h2
  have ep : p10 (rqM S (m + 1)) = p10 (rqM S m) * 10 := by rw [hr, p10_s h0]
  refine ⟨by omega, fun c q1 q2 q3 q4 => ?_, ?_⟩
  · rcases q3 with q3 | q3
    · have := a2 c q1 q2 q3 q4
      omega
    · have e : c = c / 10 * 10 + dg := by omega
      obtain ⟨z1, z2⟩ := hc (c / 10) (by omega) (by omega)
      rw [e, z1] at q4
      rw [e, z2]
      exact c2 (c / 10) (by omega) (by omega) trivial q4
  · rcases c3 with c3 | ⟨c, q1, q2, _, q4, q5⟩
    · rw [c3]
      rcases a3 with a3 | ⟨c, q1, q2, q3, q4, q5⟩
      · exact Or.inl a3
      · exact Or.inr ⟨c, q1, q2, Or.inl q3, q4, q5⟩
    · obtain ⟨z1, z2⟩ := hc c q1 q2
      exact Or.inr ⟨c * 10 + dg, by omega, by omega, Or.inr (by omega), by rw [z1]; exact q4, by rw [z2]; exact q5⟩
theorem ov_n (hk : S 0 3 - ((m : Int) + 1) = k) (hr : ¬ S 2 k = 3) (hs : si k = -1) {c : Int} : G9 S L T (ovS S si (m + 1) c) = G9 S L T (ovS S si m c) := G9_c (fun j q1 q2 => by
  unfold ovS
  rw [siR_s, hk, if_neg hr, show S 0 3 - ((m + 1 : Nat) : Int) = k by omega]
  by_cases c1 : S 0 3 - (m : Int) ≤ j
  · rw [if_pos c1, if_pos (by omega)]
  · rw [if_neg c1]
    by_cases c2 : k ≤ j
    · rw [if_pos c2, siR_lo m c j (by omega), show j = k by omega, hs]
    · rw [if_neg c2])
theorem ov_r (hk : S 0 3 - ((m : Int) + 1) = k) (hr : S 2 k = 3) {si' : Int → Int} {dg : Int} (hd : 0 ≤ dg ∧ dg < 10) (h1 : si' k = if dg = 9 then -1 else dg) (h2 : ∀ j, j ≠ k → si' j = si j) {c : Int} : G9 S L T (ovS S si (m + 1) (c * 10 + dg)) = G9 S L T (ovS S si' m c) := G9_c (fun j q1 q2 => by
  unfold ovS
  rw [siR_s, hk, if_pos hr, show S 0 3 - ((m + 1 : Nat) : Int) = k by omega, show (c * 10 + dg) % 10 = dg by omega, show (c * 10 + dg) / 10 = c by omega]
  by_cases c1 : S 0 3 - (m : Int) ≤ j
  · rw [if_pos c1, if_pos (by omega), if_neg (by omega)]
  · rw [if_neg c1]
    by_cases c2 : k ≤ j
    · have : j = k := by omega
      rw [if_pos c2, if_pos this, this, h1]
    · rw [if_neg c2, h2 j (by omega)])
theorem Cn_b {m : Nat} {met : Int} : 0 ≤ Cn S m met := by
  have := sm_b (fun c => b2i (stR S m c met)) (n := p10 (rqM S m)) (A := 0) (B := 1) (by have := p10_p (rqM S m); omega) (fun i _ _ => b2i_r _)
  unfold Cn
  omega
theorem sm_mo (f : Int → Int) {a n : Int} (ha : 0 ≤ a ∧ a ≤ n) (hf : ∀ i, 0 ≤ i → i < n → 0 ≤ f i) : sm f a ≤ sm f n := by
  obtain ⟨m, rfl⟩ : ∃ m : Nat, n = a + m := ⟨(n - a).toNat, by omega⟩
  have h0 := ha.1
  clear ha
  induction m with
  | zero => rw [show a + ((0 : Nat) : Int) = a by omega]; omega
  | succ m ih =>
    have := ih (fun i q1 q2 => hf i q1 (by omega))
    rw [show a + ((m + 1 : Nat) : Int) = a + m + 1 by omega, sm_s _ (by omega)]
    have := hf (a + m) (by omega) (by omega)
    omega
theorem Cn_1 (hV : SV S) : ∀ (m : Nat) (met : Int), (m : Int) ≤ S 0 3 → 1 ≤ Cn S m met := by
  intro m
  induction m with
  | zero => intro met _; rw [Cn_0]; omega
  | succ m ih =>
    intro met h
    have i1 := ih met (by omega)
    have v := hV.1
    by_cases c : S 2 (S 0 3 - ((m : Int) + 1)) = 3
    · rw [Cn_r hV (by omega) rfl c]
      have s0 := sm_mo (fun j => if okJ S (S 0 3 - ((m : Int) + 1)) met j = true then Cn S m (so met (p2 j)) else 0) (a := 0) (n := S 0 3) (by omega) (fun i _ _ => by
        split
        · exact Cn_b
        · omega)
      rw [sm_0] at s0
      omega
    · rw [Cn_n rfl c]
      exact i1
/-- the least by the reference -/
theorem sdL_c {G : Int → Int} {N : Int} (hn : 0 ≤ N) (hG : ∀ c, 0 ≤ c → c < N → stR S (S 0 3).toNat c 0 = true → 0 ≤ G c) : (∀ c, 0 ≤ c → c < N → stR S (S 0 3).toNat c 0 = true → sdL S G N ≤ G c ∧ sdL S G N ≠ -1) ∧ (sdL S G N = -1 ∨ ∃ c, 0 ≤ c ∧ c < N ∧ stR S (S 0 3).toNat c 0 = true ∧ sdL S G N = G c) := by
  obtain ⟨m, rfl⟩ : ∃ m : Nat, N = m := ⟨N.toNat, by omega⟩
  clear hn
  induction m with
  | zero => exact ⟨fun c q1 q2 => by omega, Or.inl rfl⟩
  | succ m ih =>
    obtain ⟨i1, i2⟩ := ih (fun c q1 q2 => hG c q1 (by omega))
    have es : sdL S G ((m : Int) + 1) = if stR S (S 0 3).toNat m 0 = true then (if sdL S G m = -1 then G m else if sdL S G m < G m then sdL S G m else G m) else sdL S G m := fo_s _ _ (by omega)
    rw [show ((m + 1 : Nat) : Int) = (m : Int) + 1 by omega] at *
    rw [es]
    generalize sdL S G m = v at *
    by_cases cs : stR S (S 0 3).toNat m 0 = true
    · rw [if_pos cs]
      have gm := hG m (by omega) (by omega) cs
      refine ⟨fun c q1 q2 q3 => ?_, ?_⟩
      · by_cases cc : c = m
        · rw [cc]
          have : v = -1 ∨ 0 ≤ v := by
            rcases i2 with i2 | ⟨c', z1, z2, z3, z4⟩
            · exact Or.inl i2
            · have := hG c' z1 (by omega) z3
              omega
          split
          · omega
          · split <;> omega
        · have z := i1 c q1 (by omega) q3
          rw [if_neg z.2]
          split <;> omega
      · right
        split
        · exact ⟨m, by omega, by omega, cs, rfl⟩
        · split
          · rcases i2 with i2 | ⟨c', z1, z2, z3, z4⟩
            · rename_i h _; exact absurd i2 h
            · exact ⟨c', z1, by omega, z3, z4⟩
          · exact ⟨m, by omega, by omega, cs, rfl⟩
    · rw [if_neg cs]
      refine ⟨fun c q1 q2 q3 => ?_, ?_⟩
      · by_cases cc : c = m
        · rw [cc] at q3; exact absurd q3 cs
        · exact i1 c q1 (by omega) q3
      · rcases i2 with i2 | ⟨c', z1, z2, z3, z4⟩
        · exact Or.inl i2
        · exact Or.inr ⟨c', z1, by omega, z3, z4⟩
end PURE
