/-! WHAT IS TOLD, in the class and in the reference -/
section AG
variable {S S' L L' R R' C C' : Nat → Int → Int} {A A' : Int → Int} {s : Int}
theorem SV5_ag (h : agS S S') (v : SV5 S) : SV5 S' := by
  obtain ⟨⟨e0, e1, e3, e13⟩, r1, rr'⟩ := h
  obtain ⟨⟨v0, v1, v2, v3⟩, v4, v5⟩ := v
  refine ⟨⟨by rw [e0, e1, e3, e13]; exact v0, fun i g1 g2 => by rw [r1 i g1 g2]; exact v1 i g1 g2, fun k g1 g2 => ?_, fun i g1 g2 => ?_⟩, by rw [e13]; exact v4, fun j g1 g2 g3 => ?_⟩
  · rw [e3] at g2
    have a := fun f f1 f2 => rr' f f1 f2 k g1 (by omega)
    rw [a 2 (by omega) (by omega), a 3 (by omega) (by omega), a 4 (by omega) (by omega), a 5 (by omega) (by omega), a 6 (by omega) (by omega), a 7 (by omega) (by omega), a 8 (by omega) (by omega), a 9 (by omega) (by omega), a 10 (by omega) (by omega)]
    exact v2 k g1 g2
  · rw [e13] at g2
    have a := fun f f1 f2 => rr' f f1 f2 i g1 (by omega)
    rw [a 11 (by omega) (by omega), a 12 (by omega) (by omega)]
    exact v3 i g1 g2
  · rw [e3] at g2 ⊢
    have a := fun f f1 f2 => rr' f f1 f2 j g1 (by omega)
    rw [a 10 (by omega) (by omega)] at g3 ⊢
    obtain ⟨w1, w2, w3⟩ := v5 j g1 g2 g3
    refine ⟨w1, w2, ?_⟩
    rw [rr' 2 (by omega) (by omega) _ w1 (by omega)]
    exact w3
theorem RSt_ag (h : agS S S') (v : SV5 S) (hr : RSt A s S) : RSt A s S' := by
  obtain ⟨⟨e0, e1, e3, e13⟩, r1, rr'⟩ := h
  obtain ⟨⟨v0, v1, v2, v3⟩, v4, v5⟩ := v
  obtain ⟨t0, t1, t2, t3⟩ := hr
  refine ⟨by rw [e0, e1, e3, e13]; exact t0, fun i g1 g2 => by rw [r1 i g1 g2]; exact t1 i g1 g2, fun k g1 g2 => ?_, fun i g1 g2 => ?_⟩
  · rw [e3] at g2
    have a := fun f f1 f2 => rr' f f1 f2 k g1 (by omega)
    rw [a 2 (by omega) (by omega), a 3 (by omega) (by omega), a 4 (by omega) (by omega), a 5 (by omega) (by omega), a 6 (by omega) (by omega), a 7 (by omega) (by omega), a 8 (by omega) (by omega), a 9 (by omega) (by omega), a 10 (by omega) (by omega)]
    exact t2 k g1 g2
  · rw [e13] at g2
    have a := fun f f1 f2 => rr' f f1 f2 i g1 (by omega)
    rw [a 11 (by omega) (by omega), a 12 (by omega) (by omega)]
    exact t3 i g1 g2
theorem RSt_A (v : SV5 S) (hA : ∀ j, s ≤ j → j < s + 165 → A' j = A j) (hr : RSt A s S) : RSt A' s S := by
  obtain ⟨⟨v0, v1, v2, v3⟩, v4, v5⟩ := v
  obtain ⟨t0, t1, t2, t3⟩ := hr
  refine ⟨by rw [hA _ (by omega) (by omega), hA _ (by omega) (by omega), hA _ (by omega) (by omega), hA _ (by omega) (by omega)]; exact t0, fun i g1 g2 => by rw [hA _ (by omega) (by omega)]; exact t1 i g1 g2, fun k g1 g2 => ?_, fun i g1 g2 => ?_⟩
  · rw [hA _ (by omega) (by omega), hA _ (by omega) (by omega), hA _ (by omega) (by omega), hA _ (by omega) (by omega), hA _ (by omega) (by omega), hA _ (by omega) (by omega), hA _ (by omega) (by omega), hA _ (by omega) (by omega), hA _ (by omega) (by omega)]
    exact t2 k g1 g2
  · rw [hA _ (by omega) (by omega), hA _ (by omega) (by omega)]
    exact t3 i g1 g2
theorem LV_ag (h : agL L L') (v : LV L) : LV L' := by
  obtain ⟨⟨e0, e1, e2, e3, e4⟩, r1⟩ := h
  exact ⟨by rw [e0, e1, e2, e3, e4]; exact v.1, fun w g1 g2 => by rw [r1 w g1 g2]; exact v.2 w g1 g2⟩
theorem RLt_ag (h : agL L L') (hr : RLt A s L) : RLt A s L' := by
  obtain ⟨⟨e0, e1, e2, e3, e4⟩, r1⟩ := h
  exact ⟨by rw [e0, e1, e2, e3, e4]; exact hr.1, fun w g1 g2 => by rw [r1 w g1 g2]; exact hr.2 w g1 g2⟩
theorem RLt_A (hA : ∀ j, s ≤ j → j < s + 14 → A' j = A j) (hr : RLt A s L) : RLt A' s L := ⟨by rw [hA _ (by omega) (by omega), hA _ (by omega) (by omega), hA _ (by omega) (by omega), hA _ (by omega) (by omega), hA _ (by omega) (by omega)]; exact hr.1, fun w g1 g2 => by rw [hA _ (by omega) (by omega)]; exact hr.2 w g1 g2⟩
theorem RV_ag (h : agR R R') (v : RV R) : RV R' := by
  obtain ⟨⟨e0, e1, e2⟩, r1, r2⟩ := h
  have v0 := v.1
  refine ⟨by rw [e0, e1, e2]; exact v.1, fun i g1 g2 => ?_⟩
  rw [e2] at g2
  rw [r1 i g1 (by omega), r2 i g1 (by omega)]
  exact v.2 i g1 g2
theorem RQt_ag (h : agR R R') (v : RV R) (hr : RQt A s R) : RQt A s R' := by
  obtain ⟨⟨e0, e1, e2⟩, r1, r2⟩ := h
  have v0 := v.1
  refine ⟨by rw [e0, e1, e2]; exact hr.1, fun i g1 g2 => ?_⟩
  rw [e2] at g2
  rw [r1 i g1 (by omega), r2 i g1 (by omega)]
  exact hr.2 i g1 g2
theorem RQt_A (v : RV R) (hA : ∀ j, s ≤ j → j < s + 83 → A' j = A j) (hr : RQt A s R) : RQt A' s R := by
  have v0 := v.1
  exact ⟨by rw [hA _ (by omega) (by omega), hA _ (by omega) (by omega), hA _ (by omega) (by omega)]; exact hr.1, fun i g1 g2 => by rw [hA _ (by omega) (by omega), hA _ (by omega) (by omega)]; exact hr.2 i g1 g2⟩
theorem CV_ag (h : agC C C') (v : CV C) : CV C' := by
  obtain ⟨e0, r1⟩ := h
  have v0 := v.1
  refine ⟨by rw [e0]; exact v.1, fun i g1 g2 => ?_⟩
  rw [e0] at g2
  rw [r1 i g1 (by omega)]
  exact v.2 i g1 g2
theorem RCt_ag (h : agC C C') (v : CV C) (hr : RCt A s C) : RCt A s C' := by
  obtain ⟨e0, r1⟩ := h
  have v0 := v.1
  refine ⟨by rw [e0]; exact hr.1, fun i g1 g2 => ?_⟩
  rw [e0] at g2
  rw [r1 i g1 (by omega)]
  exact hr.2 i g1 g2
theorem RCt_A (v : CV C) (hA : ∀ j, s ≤ j → j < s + 9 → A' j = A j) (hr : RCt A s C) : RCt A' s C := by
  have v0 := v.1
  exact ⟨by rw [hA _ (by omega) (by omega)]; exact hr.1, fun i g1 g2 => by rw [hA _ (by omega) (by omega)]; exact hr.2 i g1 g2⟩
end AG
/-- the class's rows at t tell what the reference's A tells -/
def TRl (I : Nat → Int → Int) (t : Nat) (A : Int → Int) : Prop :=
  (∀ s, 0 ≤ s → s < 4 → I (t + 2) s = A s ∧ 0 ≤ A s ∧ A s ≤ 2) ∧ (I t 1 = A 4 ∧ 0 ≤ A 4 ∧ A 4 ≤ 600) ∧ (I t 2 = A 5 ∧ I t 3 = A 6) ∧ TpB I (t + 1) (fun j => A (10 + j)) ∧
  (∀ x, 0 ≤ x → x < A 0 → SV5 (rws I (t + 7 + 20 * x.toNat)) ∧ RSt A (610 + 165 * x) (rws I (t + 7 + 20 * x.toNat))) ∧
  (∀ x, 0 ≤ x → x < A 1 → LV (rws I (t + 20 + 20 * x.toNat)) ∧ RLt A (940 + 14 * x) (rws I (t + 20 + 20 * x.toNat))) ∧
  (∀ x, 0 ≤ x → x < A 2 → RV (rws I (t + 22 + 20 * x.toNat)) ∧ RQt A (968 + 83 * x) (rws I (t + 22 + 20 * x.toNat))) ∧
  (∀ x, 0 ≤ x → x < A 3 → CV (rws I (t + 25 + 20 * x.toNat)) ∧ RCt A (1134 + 9 * x) (rws I (t + 25 + 20 * x.toNat))) ∧
  ((I (t + 20) 4 = 0 ∨ I (t + 20) 4 = 1) ∧ (I (t + 40) 4 = 0 ∨ I (t + 40) 4 = 1))
section TRL
variable {I I' : Nat → Int → Int} {t a b : Nat} {A A' : Int → Int}
theorem TRl_cp (hc : CPT I I' a b) (hA : ∀ j, 0 ≤ j → j < 1152 → A' j = A j) (h : TRl I b A) : TRl I' a A' := by
  obtain ⟨⟨c1, c2, c3⟩, ct, cc, ⟨s0, l0, r0, k0⟩, ⟨s1, l1, r1, k1⟩⟩ := hc
  obtain ⟨h1, h2, h3, h4, h5, h6, h7, h8, h9⟩ := h
  have q0 := h1 0 (by omega) (by omega)
  have q1 := h1 1 (by omega) (by omega)
  have q2 := h1 2 (by omega) (by omega)
  have q3 := h1 3 (by omega) (by omega)
  have x2 : ∀ x : Int, 0 ≤ x → x < 2 → x = 0 ∨ x = 1 := fun x g1 g2 => by omega
  refine ⟨fun s g1 g2 => ?_, ?_, ?_, fun j g1 g2 => ?_, fun x g1 g2 => ?_, fun x g1 g2 => ?_, fun x g1 g2 => ?_, fun x g1 g2 => ?_, ?_⟩
  · rw [cc s g1 g2, hA s g1 (by omega)]
    exact h1 s g1 g2
  · rw [c1, hA _ (by omega) (by omega)]
    exact h2
  · rw [c2, c3, hA _ (by omega) (by omega), hA _ (by omega) (by omega)]
    exact h3
  · show I' (a + 1) j = s8 (A' (10 + j)) ∧ 0 ≤ A' (10 + j) ∧ A' (10 + j) < 256
    rw [ct j g1 g2, hA _ (by omega) (by omega)]
    exact h4 j g1 g2
  · rw [hA _ (by omega) (by omega)] at g2
    obtain ⟨u1, u2⟩ := h5 x g1 g2
    have ag : agS (rws I (b + 7 + 20 * x.toNat)) (rws I' (a + 7 + 20 * x.toNat)) := by
      rcases x2 x g1 (by omega) with rfl | rfl
      · exact s0
      · exact s1
    exact ⟨SV5_ag ag u1, RSt_A (SV5_ag ag u1) (fun j z1 z2 => hA j (by omega) (by omega)) (RSt_ag ag u1 u2)⟩
  · rw [hA _ (by omega) (by omega)] at g2
    obtain ⟨u1, u2⟩ := h6 x g1 g2
    have ag : agL (rws I (b + 20 + 20 * x.toNat)) (rws I' (a + 20 + 20 * x.toNat)) := by
      rcases x2 x g1 (by omega) with rfl | rfl
      · exact l0
      · exact l1
    exact ⟨LV_ag ag u1, RLt_A (fun j z1 z2 => hA j (by omega) (by omega)) (RLt_ag ag u2)⟩
  · rw [hA _ (by omega) (by omega)] at g2
    obtain ⟨u1, u2⟩ := h7 x g1 g2
    have ag : agR (rws I (b + 22 + 20 * x.toNat)) (rws I' (a + 22 + 20 * x.toNat)) := by
      rcases x2 x g1 (by omega) with rfl | rfl
      · exact r0
      · exact r1
    exact ⟨RV_ag ag u1, RQt_A (RV_ag ag u1) (fun j z1 z2 => hA j (by omega) (by omega)) (RQt_ag ag u1 u2)⟩
  · rw [hA _ (by omega) (by omega)] at g2
    obtain ⟨u1, u2⟩ := h8 x g1 g2
    have ag : agC (rws I (b + 25 + 20 * x.toNat)) (rws I' (a + 25 + 20 * x.toNat)) := by
      rcases x2 x g1 (by omega) with rfl | rfl
      · exact k0
      · exact k1
    exact ⟨CV_ag ag u1, RCt_A (CV_ag ag u1) (fun j z1 z2 => hA j (by omega) (by omega)) (RCt_ag ag u1 u2)⟩
  · have e0 : I' (a + 20) 4 = I (b + 20) 4 := l0.1.2.2.2.2
    have e1 : I' (a + 40) 4 = I (b + 40) 4 := l1.1.2.2.2.2
    rw [e0, e1]
    exact h9
theorem CPT_fr (h : ∀ x, t ≤ x → x < t + 47 → I' x = I x) : CPT I I' t t := by
  have w : ∀ k f, k + f < 47 → rws I' (t + k) f = rws I (t + k) f := fun k f q => h _ (by omega) (by omega)
  have ws : ∀ k, k + 13 ≤ 47 → agS (rws I (t + k)) (rws I' (t + k)) := fun k q => ⟨by rw [w k 0 (by omega)]; exact ⟨rfl, rfl, rfl, rfl⟩, fun i _ _ => by rw [w k 1 (by omega)], fun f f1 f2 j _ _ => by rw [w k f (by omega)]⟩
  have wl : ∀ k, k + 2 ≤ 47 → agL (rws I (t + k)) (rws I' (t + k)) := fun k q => ⟨by rw [w k 0 (by omega)]; exact ⟨rfl, rfl, rfl, rfl, rfl⟩, fun i _ _ => by rw [w k 1 (by omega)]⟩
  have wr' : ∀ k, k + 3 ≤ 47 → agR (rws I (t + k)) (rws I' (t + k)) := fun k q => ⟨by rw [w k 0 (by omega)]; exact ⟨rfl, rfl, rfl⟩, fun i _ _ => by rw [w k 1 (by omega)], fun i _ _ => by rw [w k 2 (by omega)]⟩
  have wc : ∀ k, k + 2 ≤ 47 → agC (rws I (t + k)) (rws I' (t + k)) := fun k q => ⟨by rw [w k 0 (by omega)], fun i _ _ => by rw [w k 1 (by omega)]⟩
  exact ⟨by rw [h t (by omega) (by omega)]; exact ⟨rfl, rfl, rfl⟩, fun j _ _ => by rw [h _ (by omega) (by omega)], fun s _ _ => by rw [h _ (by omega) (by omega)], ⟨ws 7 (by omega), wl 20 (by omega), wr' 22 (by omega), wc 25 (by omega)⟩, ⟨ws 27 (by omega), wl 40 (by omega), wr' 42 (by omega), wc 45 (by omega)⟩⟩
theorem TRl_fr (h : ∀ x, t ≤ x → x < t + 47 → I' x = I x) (hA : ∀ j, 0 ≤ j → j < 1152 → A' j = A j) (k : TRl I t A) : TRl I' t A' := TRl_cp (CPT_fr h) hA k
end TRL
