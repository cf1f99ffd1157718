/-! LOOPS with a state; arrays filled and copied; how many bits; charges -/
theorem loop {α σ : Type} (f : Int → σ → α) (Inv : Int → σ → Prop) {a n : Int} (h : ∀ i s, a ≤ i → i < n → Inv i s → ∃ s', f i s = f (i + 1) s' ∧ Inv (i + 1) s') (han : a ≤ n) (s : σ) (h0 : Inv a s) : ∃ s', f a s = f n s' ∧ Inv n s' := by
  obtain ⟨m, rfl⟩ : ∃ m : Nat, n = a + m := ⟨(n - a).toNat, by omega⟩
  clear han
  induction m with
  | zero => exact ⟨s, by rw [show a + ((0 : Nat) : Int) = a by omega], by rw [show a + ((0 : Nat) : Int) = a by omega]; exact h0⟩
  | succ m ih =>
    obtain ⟨s1, q1, q2⟩ := ih (fun i s h1 h2 h3 => h i s h1 (by omega) h3)
    obtain ⟨s2, q3, q4⟩ := h (a + m) s1 (by omega) (by omega) q2
    have e : a + ((m + 1 : Nat) : Int) = a + (m : Int) + 1 := by omega
    exact ⟨s2, by rw [q1, q3, e], by rw [e]; exact q4⟩
/-- a loop that only leaves something behind -/
theorem loopq {α σ : Type} (f : Int → σ → α) {a n : Int} (h : ∀ i s, a ≤ i → i < n → ∃ s', f i s = f (i + 1) s') (han : a ≤ n) (s : σ) : ∃ s', f a s = f n s' := by
  obtain ⟨s', h1, _⟩ := loop f (fun _ _ => True) (fun i s h1 h2 _ => by obtain ⟨s', q⟩ := h i s h1 h2; exact ⟨s', q, trivial⟩) han s trivial
  exact ⟨s', h1⟩
/-- another row in the place of one -/
def sA (I : Nat → Int → Int) (a : Nat) (f : Int → Int) : Nat → Int → Int := fun b => if b = a then f else I b
def u1 (f : Int → Int) (x v : Int) : Int → Int := fun i => if i = x then v else f i
section ROWS
variable {α : Type} {E : (Nat → Value) × (Nat → Nat)} {lo d a b n na nb t : Nat} {μ : rM} {I : Nat → Int → Int} {f g : Int → Int} {x y v w : Int} {r : Option α}
theorem sA_s : sA I a f a = f := if_pos rfl
theorem sA_n (h : ¬ b = a) : sA I a f b = I b := if_neg h
theorem u1_s : u1 f x v x = v := if_pos rfl
theorem u1_n (h : ¬ y = x) : u1 f x v y = f y := if_neg h
theorem u3_sA : u3 I a x v = sA I a (u1 (I a) x v) := by
  funext b i
  unfold u3 sA u1
  by_cases h : b = a
  · subst h; simp
  · simp [h]
theorem sA_sA : sA (sA I a f) a g = sA I a g := by
  funext b
  unfold sA
  by_cases h : b = a
  · rw [if_pos h, if_pos h]
  · rw [if_neg h, if_neg h, if_neg h]
theorem sA_id : sA I a (I a) = I := by
  funext b
  unfold sA
  by_cases h : b = a
  · rw [if_pos h, h]
  · rw [if_neg h]
def flr (f : Int → Int) (x y v : Int) : Int → Int := fun j => if x ≤ j ∧ j < y then v else f j
theorem u1_flr (h : x ≤ y) : u1 (flr f x y v) y v = flr f x (y + 1) v := by
  funext j
  unfold u1 flr
  grind
theorem flr_0 : flr f x x v = f := by
  funext j
  unfold flr
  rw [if_neg (by omega)]
theorem fill_sp (hd : 1 ≤ d) (hk : rk μ a = some (.inr (0, n))) (hl : lo ≤ a) (hn : n < 2000000) : cl E lo d 289 [.ref a, .int (J (v))] (mj μ I) = some (none, mj μ (sA I a (flr (I a) 0 n v))) := by
  obtain ⟨d, rfl⟩ : ∃ e, d = e + 1 := ⟨d - 1, by omega⟩
  have L := tele (fun i => ex PG E lo d 289 5 [some (.ref a), some (.int (J (v))), some (.int (J (i))), some (.int (J (n)))] [] (mj μ (sA I a (flr (I a) 0 i v)))) (a := 0) (n := (n : Int)) (fun i h1 h2 => by
    rw [b289_5]
    simp (disch := omega) only [b289_10, b289_14, wrA_k hk hl, u3_sA, sA_sA, sA_s, u1_flr, Jl0, Jl1, Jl2, Jl3, Jl4, Jl5, Jl6, Jl7, Jl8, Jl9, Jl10, Jl11, Jl12, Jl13, Jl14, Jl15, Jl16, Jl17, Jl18, Jl19, Jl20, Jl22, Jl24, Jl28, Jl30, Jl31, Jl32, Jl35, Jl36, Jl37, Jl38, Jl39, Jl40, Jl48, Jl57, Jl59, Jl60, Jl61, Jl63, Jl64, Jl68, Jl69, Jl96, Jl97, Jl98, Jl99, Jl100, Jl122, Jl149, Jl150, Jl165, Jl255, Jl511, Jl512, Jl600, Jl610, Jl940, Jl968, Jl999, Jl1134, Jl1152, Jl2048, Jl4608, Jl9999, Jl99999, Jl100000, Jl147456, Jl12345, Jl1103515245, Jl100000000, Jlm1, Jlm2, J_add, J_sub, J_mul, J_lt, J_le, J_eq, J_ite, J_cl, ri_j, wi_j, b2i_z, b2i_o, b2i_zo, Int.cast_ofNat_Int, Int.natCast_zero, Int.natCast_one, if_true, if_false, ite_self, Int.le_refl, J_bit, J_or, J_neg, J_oN, Int.reduceEq, Int.reduceLT, Int.reduceLE, Int.reduceNeg, Int.reduceAdd, Int.reduceSub, Int.reduceMul, Int.reduceToNat, J_shl, J_shr, V_ite, true_or, or_true, nz_j, J_div, J_rem, Option.bind_some, Option.toList_some, Option.toList_none, List.cons_append, List.nil_append]
    rw [if_neg (by omega)]) (by omega)
  simp (disch := omega) only [b289_0, e289, alen_k hk, Jl0, Jl1, Jl2, Jl3, Jl4, Jl5, Jl6, Jl7, Jl8, Jl9, Jl10, Jl11, Jl12, Jl13, Jl14, Jl15, Jl16, Jl17, Jl18, Jl19, Jl20, Jl22, Jl24, Jl28, Jl30, Jl31, Jl32, Jl35, Jl36, Jl37, Jl38, Jl39, Jl40, Jl48, Jl57, Jl59, Jl60, Jl61, Jl63, Jl64, Jl68, Jl69, Jl96, Jl97, Jl98, Jl99, Jl100, Jl122, Jl149, Jl150, Jl165, Jl255, Jl511, Jl512, Jl600, Jl610, Jl940, Jl968, Jl999, Jl1134, Jl1152, Jl2048, Jl4608, Jl9999, Jl99999, Jl100000, Jl147456, Jl12345, Jl1103515245, Jl100000000, Jlm1, Jlm2, J_add, J_sub, J_mul, J_lt, J_le, J_eq, J_ite, J_cl, ri_j, wi_j, b2i_z, b2i_o, b2i_zo, Int.cast_ofNat_Int, Int.natCast_zero, Int.natCast_one, if_true, if_false, ite_self, Int.le_refl, J_bit, J_or, J_neg, J_oN, Int.reduceEq, Int.reduceLT, Int.reduceLE, Int.reduceNeg, Int.reduceAdd, Int.reduceSub, Int.reduceMul, Int.reduceToNat, J_shl, J_shr, V_ite, true_or, or_true, nz_j, J_div, J_rem, Option.bind_some, Option.toList_some, Option.toList_none, List.cons_append, List.nil_append]
  rw [flr_0, sA_id] at L
  refine L.trans ?_
  rw [b289_5]
  simp (disch := omega) only [b289_20, Jl0, Jl1, Jl2, Jl3, Jl4, Jl5, Jl6, Jl7, Jl8, Jl9, Jl10, Jl11, Jl12, Jl13, Jl14, Jl15, Jl16, Jl17, Jl18, Jl19, Jl20, Jl22, Jl24, Jl28, Jl30, Jl31, Jl32, Jl35, Jl36, Jl37, Jl38, Jl39, Jl40, Jl48, Jl57, Jl59, Jl60, Jl61, Jl63, Jl64, Jl68, Jl69, Jl96, Jl97, Jl98, Jl99, Jl100, Jl122, Jl149, Jl150, Jl165, Jl255, Jl511, Jl512, Jl600, Jl610, Jl940, Jl968, Jl999, Jl1134, Jl1152, Jl2048, Jl4608, Jl9999, Jl99999, Jl100000, Jl147456, Jl12345, Jl1103515245, Jl100000000, Jlm1, Jlm2, J_add, J_sub, J_mul, J_lt, J_le, J_eq, J_ite, J_cl, ri_j, wi_j, b2i_z, b2i_o, b2i_zo, Int.cast_ofNat_Int, Int.natCast_zero, Int.natCast_one, if_true, if_false, ite_self, Int.le_refl, J_bit, J_or, J_neg, J_oN, Int.reduceEq, Int.reduceLT, Int.reduceLE, Int.reduceNeg, Int.reduceAdd, Int.reduceSub, Int.reduceMul, Int.reduceToNat, J_shl, J_shr, V_ite, true_or, or_true, nz_j, J_div, J_rem, Option.bind_some, Option.toList_some, Option.toList_none, List.cons_append, List.nil_append]
theorem fillr_sp (hd : 2 ≤ d) (hk : rk μ a = some (.inr (0, n))) (hl : lo ≤ a) (hn : n < 2000000) (hx : 0 ≤ x ∧ x ≤ y ∧ y ≤ n) : cl E lo d 290 [.ref a, .int (J (x)), .int (J (y)), .int (J (v))] (mj μ I) = some (none, mj μ (sA I a (flr (I a) x y v))) := by
  obtain ⟨d, rfl⟩ : ∃ e, d = e + 1 := ⟨d - 1, by omega⟩
  have L := tele (fun i => ex PG E lo d 290 10 [some (.ref a), some (.int (J (x))), some (.int (J (y))), some (.int (J (v))), some (.int (J (i)))] [] (mj μ (sA I a (flr (I a) x i v)))) (a := x) (n := y) (fun i h1 h2 => by
    rw [b290_10]
    simp (disch := omega) only [b290_16, b290_21, wrA_k hk hl, u3_sA, sA_sA, sA_s, u1_flr, Jl0, Jl1, Jl2, Jl3, Jl4, Jl5, Jl6, Jl7, Jl8, Jl9, Jl10, Jl11, Jl12, Jl13, Jl14, Jl15, Jl16, Jl17, Jl18, Jl19, Jl20, Jl22, Jl24, Jl28, Jl30, Jl31, Jl32, Jl35, Jl36, Jl37, Jl38, Jl39, Jl40, Jl48, Jl57, Jl59, Jl60, Jl61, Jl63, Jl64, Jl68, Jl69, Jl96, Jl97, Jl98, Jl99, Jl100, Jl122, Jl149, Jl150, Jl165, Jl255, Jl511, Jl512, Jl600, Jl610, Jl940, Jl968, Jl999, Jl1134, Jl1152, Jl2048, Jl4608, Jl9999, Jl99999, Jl100000, Jl147456, Jl12345, Jl1103515245, Jl100000000, Jlm1, Jlm2, J_add, J_sub, J_mul, J_lt, J_le, J_eq, J_ite, J_cl, ri_j, wi_j, b2i_z, b2i_o, b2i_zo, Int.cast_ofNat_Int, Int.natCast_zero, Int.natCast_one, if_true, if_false, ite_self, Int.le_refl, J_bit, J_or, J_neg, J_oN, Int.reduceEq, Int.reduceLT, Int.reduceLE, Int.reduceNeg, Int.reduceAdd, Int.reduceSub, Int.reduceMul, Int.reduceToNat, J_shl, J_shr, V_ite, true_or, or_true, nz_j, J_div, J_rem, Option.bind_some, Option.toList_some, Option.toList_none, List.cons_append, List.nil_append]
    rw [if_neg (by omega)]) (by omega)
  have R : cl E lo d 287 [.int (J (n)), .int (J (x)), .int (J (y))] (mj μ I) = some (none, mj μ I) := by
    obtain ⟨d, rfl⟩ : ∃ e, d = e + 1 := ⟨d - 1, by omega⟩
    simp (disch := omega) only [e287, b287_0, b287_46, b287_59, b287_73, Jl0, Jl1, Jl2, Jl3, Jl4, Jl5, Jl6, Jl7, Jl8, Jl9, Jl10, Jl11, Jl12, Jl13, Jl14, Jl15, Jl16, Jl17, Jl18, Jl19, Jl20, Jl22, Jl24, Jl28, Jl30, Jl31, Jl32, Jl35, Jl36, Jl37, Jl38, Jl39, Jl40, Jl48, Jl57, Jl59, Jl60, Jl61, Jl63, Jl64, Jl68, Jl69, Jl96, Jl97, Jl98, Jl99, Jl100, Jl122, Jl149, Jl150, Jl165, Jl255, Jl511, Jl512, Jl600, Jl610, Jl940, Jl968, Jl999, Jl1134, Jl1152, Jl2048, Jl4608, Jl9999, Jl99999, Jl100000, Jl147456, Jl12345, Jl1103515245, Jl100000000, Jlm1, Jlm2, J_add, J_sub, J_mul, J_lt, J_le, J_eq, J_ite, J_cl, ri_j, wi_j, b2i_z, b2i_o, b2i_zo, Int.cast_ofNat_Int, Int.natCast_zero, Int.natCast_one, if_true, if_false, ite_self, Int.le_refl, J_bit, J_or, J_neg, J_oN, Int.reduceEq, Int.reduceLT, Int.reduceLE, Int.reduceNeg, Int.reduceAdd, Int.reduceSub, Int.reduceMul, Int.reduceToNat, J_shl, J_shr, V_ite, true_or, or_true, nz_j, J_div, J_rem, Option.bind_some, Option.toList_some, Option.toList_none, List.cons_append, List.nil_append]
    grind
  simp (disch := omega) only [b290_0, b290_7, e290, alen_k hk, R, Jl0, Jl1, Jl2, Jl3, Jl4, Jl5, Jl6, Jl7, Jl8, Jl9, Jl10, Jl11, Jl12, Jl13, Jl14, Jl15, Jl16, Jl17, Jl18, Jl19, Jl20, Jl22, Jl24, Jl28, Jl30, Jl31, Jl32, Jl35, Jl36, Jl37, Jl38, Jl39, Jl40, Jl48, Jl57, Jl59, Jl60, Jl61, Jl63, Jl64, Jl68, Jl69, Jl96, Jl97, Jl98, Jl99, Jl100, Jl122, Jl149, Jl150, Jl165, Jl255, Jl511, Jl512, Jl600, Jl610, Jl940, Jl968, Jl999, Jl1134, Jl1152, Jl2048, Jl4608, Jl9999, Jl99999, Jl100000, Jl147456, Jl12345, Jl1103515245, Jl100000000, Jlm1, Jlm2, J_add, J_sub, J_mul, J_lt, J_le, J_eq, J_ite, J_cl, ri_j, wi_j, b2i_z, b2i_o, b2i_zo, Int.cast_ofNat_Int, Int.natCast_zero, Int.natCast_one, if_true, if_false, ite_self, Int.le_refl, J_bit, J_or, J_neg, J_oN, Int.reduceEq, Int.reduceLT, Int.reduceLE, Int.reduceNeg, Int.reduceAdd, Int.reduceSub, Int.reduceMul, Int.reduceToNat, J_shl, J_shr, V_ite, true_or, or_true, nz_j, J_div, J_rem, Option.bind_some, Option.toList_some, Option.toList_none, List.cons_append, List.nil_append]
  rw [flr_0, sA_id] at L
  refine L.trans ?_
  rw [b290_10]
  simp (disch := omega) only [b290_27, Jl0, Jl1, Jl2, Jl3, Jl4, Jl5, Jl6, Jl7, Jl8, Jl9, Jl10, Jl11, Jl12, Jl13, Jl14, Jl15, Jl16, Jl17, Jl18, Jl19, Jl20, Jl22, Jl24, Jl28, Jl30, Jl31, Jl32, Jl35, Jl36, Jl37, Jl38, Jl39, Jl40, Jl48, Jl57, Jl59, Jl60, Jl61, Jl63, Jl64, Jl68, Jl69, Jl96, Jl97, Jl98, Jl99, Jl100, Jl122, Jl149, Jl150, Jl165, Jl255, Jl511, Jl512, Jl600, Jl610, Jl940, Jl968, Jl999, Jl1134, Jl1152, Jl2048, Jl4608, Jl9999, Jl99999, Jl100000, Jl147456, Jl12345, Jl1103515245, Jl100000000, Jlm1, Jlm2, J_add, J_sub, J_mul, J_lt, J_le, J_eq, J_ite, J_cl, ri_j, wi_j, b2i_z, b2i_o, b2i_zo, Int.cast_ofNat_Int, Int.natCast_zero, Int.natCast_one, if_true, if_false, ite_self, Int.le_refl, J_bit, J_or, J_neg, J_oN, Int.reduceEq, Int.reduceLT, Int.reduceLE, Int.reduceNeg, Int.reduceAdd, Int.reduceSub, Int.reduceMul, Int.reduceToNat, J_shl, J_shr, V_ite, true_or, or_true, nz_j, J_div, J_rem, Option.bind_some, Option.toList_some, Option.toList_none, List.cons_append, List.nil_append]
theorem acp_k (ha : rk μ a = some (.inr (t, na))) (hb : rk μ b = some (.inr (t, nb))) (ht : t = 0 ∨ t = 1) (hl : lo ≤ a ∧ lo ≤ b ∧ a ≠ b ∧ na ≤ 1000000 ∧ nb ≤ 1000000) (h : 0 ≤ x ∧ 0 ≤ y ∧ 0 ≤ w ∧ x + w ≤ na ∧ y + w ≤ nb) : acp lo (mj μ I) a (J x) b (J y) (J w) r = r := by
  unfold acp
  rw [rk_j, rk_j, ha, hb]
  have e : ∀ z : Int, 0 ≤ z ∧ z < 2147483648 → (0 : Int32) ≤ J z ∧ (((J z).toNatClampNeg : Nat) : Int) = z := fun z hz => ⟨by rw [show (0 : Int32) = J 0 from rfl, J_le (by omega)]; omega, J_cl hz⟩
  obtain ⟨x1, x2⟩ := e x (by omega)
  obtain ⟨y1, y2⟩ := e y (by omega)
  obtain ⟨w1, w2⟩ := e w (by omega)
  exact if_pos ⟨ht, rfl, hl.1, hl.2.1, hl.2.2.1, x1, y1, w1, by dsimp only; omega, by dsimp only; omega, hl.2.2.2.1, hl.2.2.2.2⟩
/-- w of a row, from x on, to another one, from y on -/
def cpr (f g : Int → Int) (x y w : Int) : Int → Int := fun j => if y ≤ j ∧ j < y + w then f (x + (j - y)) else g j
theorem cp_j (h : 0 ≤ x ∧ 0 ≤ y ∧ 0 ≤ w ∧ x < 2147483648 ∧ y < 2147483648 ∧ w < 2147483648) : cp (mj μ I) a (J x).toNatClampNeg b (J y).toNatClampNeg (J w).toNatClampNeg = mj μ (sA I b (cpr (I a) (I b) x y w)) := by
  unfold cp mj
  refine Prod.ext rfl (Prod.ext ?_ rfl)
  funext c j
  have hx := J_cl (a := x) (by omega)
  have hy := J_cl (a := y) (by omega)
  have hw := J_cl (a := w) (by omega)
  dsimp only
  unfold sA cpr va_cpy
  by_cases hc : c = b
  · rw [if_pos hc, if_pos hc]
    by_cases hj : (J y).toNatClampNeg ≤ j ∧ j < (J y).toNatClampNeg + (J w).toNatClampNeg
    · rw [if_pos hj, if_pos (by omega)]
      have e : (((J x).toNatClampNeg + (j - (J y).toNatClampNeg) : Nat) : Int) = x + ((j : Int) - y) := by omega
      exact congrArg (fun z => J (I a z)) e
    · rw [if_neg hj, if_neg (by omega)]
  · rw [if_neg hc, if_neg hc]
end ROWS
