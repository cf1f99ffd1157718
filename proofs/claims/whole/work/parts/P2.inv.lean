/-! WHAT HOLDS BETWEEN TWO CALLS -/
theorem TS_m {μ μ' : rM} {t : Nat} (h : TS μ t) (hk : rk μ' = rk μ) (hr : ∀ a f, t ≤ a → a < t + 47 → rr μ' a f = rr μ a f) : TS μ' t := by
  obtain ⟨hD, ⟨a30, a31⟩, ⟨a40, a41⟩, ⟨a50, a51⟩, ⟨a60, a61⟩, ⟨aS0, aS1⟩, ⟨aL0, aL1⟩, ⟨aR0, aR1⟩, ⟨aC0, aC1⟩⟩ := h
  have sh : ∀ {c b : Nat} {l : List (Nat × Nat × Nat × Nat)}, t ≤ b → b < t + 47 → (rk μ b = some (.inl c) ∧ ∀ q ∈ l, rr μ b q.1 = some (b + q.2.1) ∧ rk μ (b + q.2.1) = some (.inr (q.2.2.1, q.2.2.2))) → (rk μ' b = some (.inl c) ∧ ∀ q ∈ l, rr μ' b q.1 = some (b + q.2.1) ∧ rk μ' (b + q.2.1) = some (.inr (q.2.2.1, q.2.2.2))) := fun q1 q2 z => ⟨by rw [hk]; exact z.1, fun q hq => ⟨by rw [hr _ _ q1 q2]; exact (z.2 q hq).1, by rw [hk]; exact (z.2 q hq).2⟩⟩
  exact ⟨sh (by omega) (by omega) hD, ⟨by rw [hr _ _ (by omega) (by omega)]; exact a30, by rw [hr _ _ (by omega) (by omega)]; exact a31⟩, ⟨by rw [hr _ _ (by omega) (by omega)]; exact a40, by rw [hr _ _ (by omega) (by omega)]; exact a41⟩, ⟨by rw [hr _ _ (by omega) (by omega)]; exact a50, by rw [hr _ _ (by omega) (by omega)]; exact a51⟩, ⟨by rw [hr _ _ (by omega) (by omega)]; exact a60, by rw [hr _ _ (by omega) (by omega)]; exact a61⟩, ⟨sh (by omega) (by omega) aS0, sh (by omega) (by omega) aS1⟩, ⟨sh (by omega) (by omega) aL0, sh (by omega) (by omega) aL1⟩, ⟨sh (by omega) (by omega) aR0, sh (by omega) (by omega) aR1⟩, ⟨sh (by omega) (by omega) aC0, sh (by omega) (by omega) aC1⟩⟩
theorem Sta_m {E : (Nat → Value) × (Nat → Nat)} {lo : Nat} {μ μ' : rM} {I : Nat → Int → Int} (h : Sta E lo μ I) (hk : ∀ a, a < lo → rk μ' a = rk μ a) : Sta E lo μ' I := by
  obtain ⟨⟨t0, t1, t2, t3, t4, h0, h1, h2, h3, h4⟩, ht⟩ := h
  have st : ∀ {q t : Nat} {l : List Int}, StA E μ I lo q t l → StA E μ' I lo q t l := fun z => ⟨z.1, z.2.1, by rw [hk _ z.2.1]; exact z.2.2.1, z.2.2.2⟩
  refine ⟨⟨t0, t1, t2, t3, t4, st h0, st h1, st h2, st h3, st h4⟩, fun s hs => ?_⟩
  obtain ⟨a, b1, b2, b3⟩ := ht s hs
  exact ⟨a, b1, by rw [hk _ a]; exact b2, b3⟩
/-- the images -/
def IMG (lo : Nat) (μ : rM) (I : Nat → Int → Int) : Prop := ∀ k : Nat, k < 3 → (I (lo + 148) (k : Int) = 0 ∧ rr μ (lo + 48) k = none) ∨ (I (lo + 148) (k : Int) = 1 ∧ ∃ t, rr μ (lo + 48) k = some t ∧ (lo + 172 ≤ t ∧ t + 47 ≤ rz μ) ∧ TS μ t ∧ TRl I t (fun j => I (lo + 147) (1152 * ((k : Int) + 1) + j)) ∧ ∀ k' : Nat, k' < 3 → k' ≠ k → ∀ t', rr μ (lo + 48) k' = some t' → t + 47 ≤ t' ∨ t' + 47 ≤ t)
def ROOM (lo : Nat) (μ : rM) (I : Nat → Int → Int) : Prop := (rz μ : Int) = lo + 172 + 47 * (I (lo + 148) 0 + I (lo + 148) 1 + I (lo + 148) 2) ∧ (ru μ : Int) = 310214 + 1199 * (I (lo + 148) 0 + I (lo + 148) 1 + I (lo + 148) 2)
def INV (E : (Nat → Value) × (Nat → Nat)) (lo b L : Nat) (μ : rM) (I : Nat → Int → Int) : Prop := CO μ lo ∧ Sta E lo μ I ∧ (b < lo ∧ rk μ b = some (.inr (0, L)) ∧ L ≤ 3584 ∧ ∀ j : Int, 0 ≤ j → j < L → i32 (I b j)) ∧ ((DV (I (lo + 84 + 14)) ∧ SiV (I (lo + 84 + 15))) ∧ SIL I lo ∧ LV (rws I (lo + 72))) ∧ TRl I (lo + 1) (I (lo + 147)) ∧ IMG lo μ I ∧ ROOM lo μ I
section INV
variable {E : (Nat → Value) × (Nat → Nat)} {lo b L : Nat} {μ μ' : rM} {I I' : Nat → Int → Int} {x : Int}
theorem IMG_fr (h : IMG lo μ I) (hk : rk μ' = rk μ) (hz : rz μ' = rz μ) (hr : ∀ a f, (a = lo + 48 ∨ lo + 172 ≤ a) → rr μ' a f = rr μ a f) (hI : ∀ a, lo + 172 ≤ a → I' a = I a) (h7 : ∀ j, 1152 ≤ j → I' (lo + 147) j = I (lo + 147) j) (h8 : I' (lo + 148) = I (lo + 148)) : IMG lo μ' I' := by
  intro k hk3
  rw [h8, hr _ _ (Or.inl rfl)]
  rcases h k hk3 with q | ⟨q1, t, q2, q3, q4, q5, q6⟩
  · exact Or.inl q
  · refine Or.inr ⟨q1, t, q2, by rw [hz]; exact q3, TS_m q4 hk (fun a f z1 z2 => hr a f (by omega)), ?_, fun k' z1 z2 t' z3 => q6 k' z1 z2 t' (by rw [← hr _ _ (Or.inl rfl)]; exact z3)⟩
    exact TRl_fr (fun x z1 z2 => hI x (by omega)) (fun j z1 z2 => h7 _ (by omega)) q5
theorem INV_FQ (h : INV E lo b L μ I) (f : FQ lo μ I μ' I') : INV E lo b L μ' I' := by
  obtain ⟨h1, h2, ⟨h3, h4, h4', h5⟩, ⟨h6, h7, h8⟩, h9, h10, h11⟩ := h
  obtain ⟨⟨f1, f2, f3, f4, f5⟩, g1, g2⟩ := id f
  have e7 : I' (lo + 147) = I (lo + 147) := g1 _ (by omega)
  have e8 : I' (lo + 148) = I (lo + 148) := g1 _ (by omega)
  refine ⟨f.C h1, Sta_m (Sta_fr h2 (fun x hx => g1 x (by omega))) (fun a _ => by rw [f1]), ⟨h3, by rw [f1]; exact h4, h4', fun j z1 z2 => by rw [g1 b (by omega)]; exact h5 j z1 z2⟩, ⟨g2 h6, ?_, ?_⟩, ?_, ?_, ?_⟩
  · unfold SIL at *
    rw [g1 _ (by omega), g1 _ (by omega), g1 _ (by omega), g1 _ (by omega)]
    exact h7
  · have e0 : rws I' (lo + 72) 0 = rws I (lo + 72) 0 := g1 _ (by omega)
    have e1 : rws I' (lo + 72) 1 = rws I (lo + 72) 1 := g1 _ (by omega)
    unfold LV at *
    rw [e0, e1]
    exact h8
  · exact TRl_fr (fun x z1 z2 => g1 x (by omega)) (fun j _ _ => by rw [e7]) h9
  · exact IMG_fr h10 f1 f2 (fun a f z => f4 a f (by unfold vaR; omega)) (fun a z => g1 a (by omega)) (fun j _ => by rw [e7]) e8
  · unfold ROOM at *
    rw [f2, f3, e8]
    exact h11
/-- numbers of what is told and of the reference have changed -/
theorem INV_T (h : INV E lo b L μ I) (g : ∀ a, ¬ (lo + 1 ≤ a ∧ a < lo + 48) → ¬ (lo + 49 ≤ a ∧ a < lo + 72) → ¬ (lo + 146 ≤ a ∧ a < lo + 172) → I' a = I a) (g7 : ∀ j, 1152 ≤ j → I' (lo + 147) j = I (lo + 147) j) (g8 : I' (lo + 148) = I (lo + 148)) (hT : TRl I' (lo + 1) (I' (lo + 147))) : INV E lo b L μ I' := by
  obtain ⟨h1, h2, ⟨h3, h4, h4', h5⟩, ⟨h6, h7, h8⟩, h9, h10, h11⟩ := h
  refine ⟨h1, Sta_fr h2 (fun x hx => g x (by omega) (by omega) (by omega)), ⟨h3, h4, h4', fun j z1 z2 => by rw [g b (by omega) (by omega) (by omega)]; exact h5 j z1 z2⟩, ⟨by rw [g _ (by omega) (by omega) (by omega), g _ (by omega) (by omega) (by omega)]; exact h6, ?_, ?_⟩, hT, ?_, ?_⟩
  · unfold SIL at *
    rw [g _ (by omega) (by omega) (by omega), g _ (by omega) (by omega) (by omega), g _ (by omega) (by omega) (by omega), g _ (by omega) (by omega) (by omega)]
    exact h7
  · have e0 : rws I' (lo + 72) 0 = rws I (lo + 72) 0 := g _ (by omega) (by omega) (by omega)
    have e1 : rws I' (lo + 72) 1 = rws I (lo + 72) 1 := g _ (by omega) (by omega) (by omega)
    unfold LV at *
    rw [e0, e1]
    exact h8
  · exact IMG_fr h10 rfl rfl (fun a f z => rfl) (fun a z => g a (by omega) (by omega) (by omega)) g7 g8
  · unfold ROOM at *
    rw [g8]
    exact h11
/-- the reference's rows but the first two have changed -/
theorem INV_M {M' : Nat → Int → Int} (h : INV E lo b L μ I) (m1 : M' 1 = I (lo + 147)) (m2 : M' 2 = I (lo + 148)) : INV E lo b L μ (sB I (lo + 146) 26 M') := by
  have e7 : sB I (lo + 146) 26 M' (lo + 147) = I (lo + 147) := (sB_c (c := 1) (by omega)).trans m1
  have e8 : sB I (lo + 146) 26 M' (lo + 148) = I (lo + 148) := (sB_c (c := 2) (by omega)).trans m2
  refine INV_T h (fun a _ _ q => sB_n (by omega)) (fun j _ => by rw [e7]) e8 ?_
  exact TRl_fr (fun x z1 z2 => sB_n (by omega)) (fun j _ _ => by rw [e7]) h.2.2.2.2.1
theorem INV.cnt (h : INV E lo b L μ I) {s : Int} (hs : 0 ≤ s ∧ s < 4) : I (lo + 1 + 2) s = I (lo + 147) s ∧ 0 ≤ I (lo + 147) s ∧ I (lo + 147) s ≤ 2 := h.2.2.2.2.1.1 s hs.1 hs.2
theorem INV.TOK (h : INV E lo b L μ I) : TOK I lo := by
  obtain ⟨t1, t2, t3, t4, t5, t6, t7, t8, t9⟩ := id h.2.2.2.2.1
  refine ⟨fun s z1 z2 => by rw [(t1 s z1 z2).1]; exact (t1 s z1 z2).2, fun x z1 z2 => (t5 x z1 (by rw [← (t1 0 (by omega) (by omega)).1]; exact z2)).1, fun x z1 z2 => (t6 x z1 (by rw [← (t1 1 (by omega) (by omega)).1]; exact z2)).1, fun x z1 z2 => (t7 x z1 (by rw [← (t1 2 (by omega) (by omega)).1]; exact z2)).1, fun x z1 z2 => (t8 x z1 (by rw [← (t1 3 (by omega) (by omega)).1]; exact z2)).1⟩
theorem INV.CK (h : INV E lo b L μ I) : CK μ I lo := ⟨h.1, h.TOK, h.2.2.2.1⟩
theorem INV.tS (h : INV E lo b L μ I) (e : I' (lo + 147) = I (lo + 147)) : TSt (rws I' (lo + 146)) x (rws I (lo + 8 + 20 * x.toNat)) := by
  obtain ⟨t1, t2, t3, t4, t5, t6, t7, t8, t9⟩ := id h.2.2.2.2.1
  have e' : rws I' (lo + 146) 1 = I (lo + 147) := e
  unfold TSt
  rw [e']
  exact ⟨(t1 0 (by omega) (by omega)).2, fun z1 z2 => t5 x z1 z2⟩
theorem INV.tL (h : INV E lo b L μ I) (e : I' (lo + 147) = I (lo + 147)) : TLa (rws I' (lo + 146)) x (rws I (lo + 21 + 20 * x.toNat)) := by
  obtain ⟨t1, t2, t3, t4, t5, t6, t7, t8, t9⟩ := id h.2.2.2.2.1
  have e' : rws I' (lo + 146) 1 = I (lo + 147) := e
  unfold TLa
  rw [e']
  exact ⟨(t1 1 (by omega) (by omega)).2, fun z1 z2 => t6 x z1 z2⟩
theorem INV.tR (h : INV E lo b L μ I) (e : I' (lo + 147) = I (lo + 147)) : TRo (rws I' (lo + 146)) x (rws I (lo + 23 + 20 * x.toNat)) := by
  obtain ⟨t1, t2, t3, t4, t5, t6, t7, t8, t9⟩ := id h.2.2.2.2.1
  have e' : rws I' (lo + 146) 1 = I (lo + 147) := e
  unfold TRo
  rw [e']
  exact ⟨(t1 2 (by omega) (by omega)).2, fun z1 z2 => t7 x z1 z2⟩
theorem INV.tC (h : INV E lo b L μ I) (e : I' (lo + 147) = I (lo + 147)) : TCa (rws I' (lo + 146)) x (rws I (lo + 26 + 20 * x.toNat)) := by
  obtain ⟨t1, t2, t3, t4, t5, t6, t7, t8, t9⟩ := id h.2.2.2.2.1
  have e' : rws I' (lo + 146) 1 = I (lo + 147) := e
  unfold TCa
  rw [e']
  exact ⟨(t1 3 (by omega) (by omega)).2, fun z1 z2 => t8 x z1 z2⟩
theorem INV.b32 (h : INV E lo b L μ I) {j : Int} (hj : 0 ≤ j ∧ j < L) : i32 (I b j) := h.2.2.1.2.2.2 j hj.1 hj.2
/-- both answers to a question: what is left -/
theorem bothQ {v : Int} {r1 : Option rRs} {r2 : rM → (Nat → Int → Int) → Option rRs} (h : INV E lo b L μ I) (hc : CQ lo μ I v r1) (hq : ∀ μ' I', FQ lo μ I μ' I' → I' (lo + 147) = I (lo + 147) → ShM μ' (lo + 146) → QR μ' I' (lo + 146) (rws I' (lo + 146)) v (r2 μ' I')) : ∃ μ1 I1 I2, r1 = some (some (.int (J v)), mj μ1 I1) ∧ r2 μ1 I1 = some (some (.int (J v)), mj μ1 I2) ∧ INV E lo b L μ1 I2 ∧ rk μ1 b = rk μ b ∧ I1 b = I b ∧ CO μ1 lo := by
  obtain ⟨μ1, I1, e1, f⟩ := hc
  have h1 := INV_FQ h f
  have hb := h.2.2.1.1
  obtain ⟨M', e2, m1, m2⟩ := hq μ1 I1 f (f.2.1 _ (by omega)) h1.1.M146
  exact ⟨μ1, I1, _, e1, e2, INV_M h1 m1 m2, by rw [f.1.1], f.2.1 b (by omega), h1.1⟩
theorem bothL {v : Int} {r1 : Option rRs} {r2 : rM → (Nat → Int → Int) → Option rRs} (h : INV E lo b L μ I) (hc : CQL lo μ I v r1) (hq : ∀ μ' I', FQ lo μ I μ' I' → I' (lo + 147) = I (lo + 147) → ShM μ' (lo + 146) → QL μ' I' (lo + 146) (rws I' (lo + 146)) v (r2 μ' I')) : ∃ μ1 I1 I2, r1 = some (some (.long (K v)), mj μ1 I1) ∧ r2 μ1 I1 = some (some (.long (K v)), mj μ1 I2) ∧ INV E lo b L μ1 I2 ∧ rk μ1 b = rk μ b ∧ I1 b = I b ∧ CO μ1 lo := by
  obtain ⟨μ1, I1, e1, f⟩ := hc
  have h1 := INV_FQ h f
  have hb := h.2.2.1.1
  obtain ⟨M', e2, m1, m2⟩ := hq μ1 I1 f (f.2.1 _ (by omega)) h1.1.M146
  exact ⟨μ1, I1, _, e1, e2, INV_M h1 m1 m2, by rw [f.1.1], f.2.1 b (by omega), h1.1⟩
end INV
