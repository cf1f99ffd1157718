/-! NUMBERS: an Int32 by an integer; memories with integers in them -/
def J (z : Int) : Int32 := Int32.ofInt z
theorem J_toInt {z : Int} (h : -2147483648 ≤ z ∧ z < 2147483648) : (J z).toInt = z := by
  unfold J
  rw [Int32.toInt_ofInt]
  exact Int.bmod_eq_of_le (by rw [show Int32.size = 4294967296 from rfl]; omega) (by rw [show Int32.size = 4294967296 from rfl]; omega)
theorem J_of (x : Int32) : J x.toInt = x := Int32.ofInt_toInt x
theorem J_add (a b : Int) : J a + J b = J (a + b) := (Int32.ofInt_add a b).symm
theorem J_sub (a b : Int) : J a - J b = J (a - b) := (Int32.ofInt_sub a b).symm
theorem J_mul (a b : Int) : J a * J b = J (a * b) := (Int32.ofInt_mul a b).symm
theorem J_neg (a : Int) : -J a = J (-a) := (Int32.ofInt_neg a).symm
theorem J_lt {a b : Int} (ha : -2147483648 ≤ a ∧ a < 2147483648 ∧ -2147483648 ≤ b ∧ b < 2147483648) : (J a < J b) = (a < b) := by
  rw [Int32.lt_iff_toInt_lt, J_toInt (by omega), J_toInt (by omega)]
theorem J_le {a b : Int} (ha : -2147483648 ≤ a ∧ a < 2147483648 ∧ -2147483648 ≤ b ∧ b < 2147483648) : (J a ≤ J b) = (a ≤ b) := by
  rw [Int32.le_iff_toInt_le, J_toInt (by omega), J_toInt (by omega)]
theorem J_eq {a b : Int} (ha : -2147483648 ≤ a ∧ a < 2147483648 ∧ -2147483648 ≤ b ∧ b < 2147483648) : (J a = J b) = (a = b) := by
  apply propext
  constructor
  · intro h
    have := congrArg Int32.toInt h
    rwa [J_toInt (by omega), J_toInt (by omega)] at this
  · intro h; rw [h]
theorem J_ite (c : Prop) [Decidable c] (a b : Int) : (if c then J a else J b) = J (if c then a else b) := by split <;> rfl
theorem J_cl {a : Int} (ha : 0 ≤ a ∧ a < 2147483648) : (((J a).toNatClampNeg : Nat) : Int) = a := by
  show (((J a).toInt.toNat : Nat) : Int) = a
  rw [J_toInt (by omega)]
  omega
theorem J_aIn {a : Int} {n : Nat} (h : 0 ≤ a ∧ a < n ∧ a < 2147483648) : aIn (J a) n = true := by
  unfold aIn
  have h1 : (((J a).toNatClampNeg : Nat) : Int) = a := J_cl (by omega)
  have e : (0 : Int32) ≤ J a := by
    rw [Int32.le_iff_toInt_le, J_toInt (by omega)]
    exact h.1
  simp only [e, decide_true, Bool.true_and, decide_eq_true_eq]
  omega
theorem J_div {a b : Int} (h : 0 ≤ a ∧ a < 2147483648 ∧ 0 < b ∧ b < 2147483648) : J a / J b = J (a / b) := by
  apply Int32.toInt_inj.mp
  rw [Int32.toInt_div_of_ne_left _ _ (by
    intro hh
    have := congrArg Int32.toInt hh
    rw [J_toInt (by omega)] at this
    have h2 : Int32.minValue.toInt = -2147483648 := by decide
    omega), J_toInt (by omega), J_toInt (by omega), Int.tdiv_eq_ediv_of_nonneg (by omega), J_toInt]
  have h1 := Int.ediv_nonneg (a := a) (b := b) (by omega) (by omega)
  have h2 := Int.ediv_le_self (a := a) b (by omega)
  omega
theorem J_rem {a b : Int} (h : 0 ≤ a ∧ a < 2147483648 ∧ 0 < b ∧ b < 2147483648) : J a - J a / J b * J b = J (a % b) := by
  rw [J_div h, J_mul, J_sub, Int.emod_def, Int.mul_comm]
theorem Jl0 : (0 : Int32) = J 0 := by decide
theorem Jl1 : (1 : Int32) = J 1 := by decide
theorem Jl2 : (2 : Int32) = J 2 := by decide
theorem Jl3 : (3 : Int32) = J 3 := by decide
theorem Jl4 : (4 : Int32) = J 4 := by decide
theorem Jl5 : (5 : Int32) = J 5 := by decide
theorem Jl6 : (6 : Int32) = J 6 := by decide
theorem Jl7 : (7 : Int32) = J 7 := by decide
theorem Jl8 : (8 : Int32) = J 8 := by decide
theorem Jl9 : (9 : Int32) = J 9 := by decide
theorem Jl10 : (10 : Int32) = J 10 := by decide
theorem Jl11 : (11 : Int32) = J 11 := by decide
theorem Jl12 : (12 : Int32) = J 12 := by decide
theorem Jl13 : (13 : Int32) = J 13 := by decide
theorem Jl14 : (14 : Int32) = J 14 := by decide
theorem Jl15 : (15 : Int32) = J 15 := by decide
theorem Jl16 : (16 : Int32) = J 16 := by decide
theorem Jl17 : (17 : Int32) = J 17 := by decide
theorem Jl18 : (18 : Int32) = J 18 := by decide
theorem Jl19 : (19 : Int32) = J 19 := by decide
theorem Jl20 : (20 : Int32) = J 20 := by decide
theorem Jl22 : (22 : Int32) = J 22 := by decide
theorem Jl24 : (24 : Int32) = J 24 := by decide
theorem Jl28 : (28 : Int32) = J 28 := by decide
theorem Jl30 : (30 : Int32) = J 30 := by decide
theorem Jl31 : (31 : Int32) = J 31 := by decide
theorem Jl32 : (32 : Int32) = J 32 := by decide
theorem Jl35 : (35 : Int32) = J 35 := by decide
theorem Jl36 : (36 : Int32) = J 36 := by decide
theorem Jl37 : (37 : Int32) = J 37 := by decide
theorem Jl38 : (38 : Int32) = J 38 := by decide
theorem Jl39 : (39 : Int32) = J 39 := by decide
theorem Jl40 : (40 : Int32) = J 40 := by decide
theorem Jl48 : (48 : Int32) = J 48 := by decide
theorem Jl57 : (57 : Int32) = J 57 := by decide
theorem Jl59 : (59 : Int32) = J 59 := by decide
theorem Jl60 : (60 : Int32) = J 60 := by decide
theorem Jl61 : (61 : Int32) = J 61 := by decide
theorem Jl63 : (63 : Int32) = J 63 := by decide
theorem Jl64 : (64 : Int32) = J 64 := by decide
theorem Jl68 : (68 : Int32) = J 68 := by decide
theorem Jl69 : (69 : Int32) = J 69 := by decide
theorem Jl96 : (96 : Int32) = J 96 := by decide
theorem Jl97 : (97 : Int32) = J 97 := by decide
theorem Jl98 : (98 : Int32) = J 98 := by decide
theorem Jl99 : (99 : Int32) = J 99 := by decide
theorem Jl100 : (100 : Int32) = J 100 := by decide
theorem Jl122 : (122 : Int32) = J 122 := by decide
theorem Jl149 : (149 : Int32) = J 149 := by decide
theorem Jl150 : (150 : Int32) = J 150 := by decide
theorem Jl165 : (165 : Int32) = J 165 := by decide
theorem Jl255 : (255 : Int32) = J 255 := by decide
theorem Jl511 : (511 : Int32) = J 511 := by decide
theorem Jl512 : (512 : Int32) = J 512 := by decide
theorem Jl600 : (600 : Int32) = J 600 := by decide
theorem Jl610 : (610 : Int32) = J 610 := by decide
theorem Jl940 : (940 : Int32) = J 940 := by decide
theorem Jl968 : (968 : Int32) = J 968 := by decide
theorem Jl999 : (999 : Int32) = J 999 := by decide
theorem Jl1134 : (1134 : Int32) = J 1134 := by decide
theorem Jl1152 : (1152 : Int32) = J 1152 := by decide
theorem Jl2048 : (2048 : Int32) = J 2048 := by decide
theorem Jl4608 : (4608 : Int32) = J 4608 := by decide
theorem Jl9999 : (9999 : Int32) = J 9999 := by decide
theorem Jl99999 : (99999 : Int32) = J 99999 := by decide
theorem Jl100000 : (100000 : Int32) = J 100000 := by decide
theorem Jl147456 : (147456 : Int32) = J 147456 := by decide
theorem Jl12345 : (12345 : Int32) = J 12345 := by decide
theorem Jl1103515245 : (1103515245 : Int32) = J 1103515245 := by decide
theorem Jl100000000 : (100000000 : Int32) = J 100000000 := by decide
theorem Jlm1 : (-1 : Int32) = J (-1) := by decide
theorem Jlm2 : (-2 : Int32) = J (-2) := by decide
def b2i (b : Bool) : Int := if b then 1 else 0
theorem b2i_t : b2i true = 1 := rfl
theorem b2i_f : b2i false = 0 := rfl
theorem b2i_z (b : Bool) : (J (b2i b) = J 0) = (b = false) := by cases b <;> decide
theorem b2i_o (b : Bool) : (J (b2i b) = J 1) = (b = true) := by cases b <;> decide
theorem b2i_zo (b : Bool) : (b = false ∨ b = true) = True := by cases b <;> decide
theorem b2i_r (b : Bool) : 0 ≤ b2i b ∧ b2i b ≤ 1 := by cases b <;> decide
theorem b2i_1 {c : Prop} [Decidable c] (h : c) : (1 : Int) = b2i (decide c) := by rw [decide_eq_true h]; rfl
theorem b2i_0 {c : Prop} [Decidable c] (h : ¬ c) : (0 : Int) = b2i (decide c) := by rw [decide_eq_false h]; rfl
/-- a memory with integers in it -/
def mj (μ : rM) (I : Nat → Int → Int) : rM := (μ.1, fun a j => J (I a (j : Int)), μ.2.2)
def u3 (I : Nat → Int → Int) (a : Nat) (x v : Int) : Nat → Int → Int := fun b i => if b = a ∧ i = x then v else I b i
theorem mj_of (μ : rM) : mj μ (fun a j => (ri μ a j.toNat).toInt) = μ := by
  unfold mj
  refine Prod.ext rfl (Prod.ext ?_ rfl)
  funext a j
  exact J_of _
section MJ
variable {α : Type} {lo a b c f t n : Nat} {μ : rM} {I : Nat → Int → Int} {x v : Int} {r r1 r2 : Option α}
theorem rk_j : rk (mj μ I) a = rk μ a := rfl
theorem rr_j : rr (mj μ I) a f = rr μ a f := rfl
theorem rz_j : rz (mj μ I) = rz μ := rfl
theorem ru_j : ru (mj μ I) = ru μ := rfl
theorem ri_j (j : Nat) : ri (mj μ I) a j = J (I a (j : Int)) := rfl
theorem wi_j (j : Nat) : wi (mj μ I) a j (J v) = mj μ (u3 I a (j : Int) v) := by
  unfold wi mj
  refine Prod.ext rfl (Prod.ext ?_ rfl)
  funext b i
  unfold up2 u3
  dsimp only
  by_cases h : b = a ∧ i = j
  · rw [if_pos h, if_pos (by omega)]
  · rw [if_neg h, if_neg (by omega)]
theorem wr_j (j : Nat) (o : Option Nat) : wr (mj μ I) a j o = mj (wr μ a j o) I := rfl
theorem u3_s : u3 I a x v a x = v := if_pos ⟨rfl, rfl⟩
theorem u3_n {i : Int} (h : ¬ (b = a ∧ i = x)) : u3 I a x v b i = I b i := if_neg h
theorem u3_c (h : ¬ b = a) : u3 I a x v b = I b := by
  funext i
  exact if_neg (fun q => h q.1)
theorem u3_u (w : Int) : u3 (u3 I a x v) a x w = u3 I a x w := by
  funext b i
  unfold u3
  by_cases h : b = a ∧ i = x
  · rw [if_pos h, if_pos h]
  · rw [if_neg h, if_neg h, if_neg h]
theorem gO_k (h : rk μ a = some (.inl c)) : gO (mj μ I) a c r = r := if_pos h
theorem gP_k (h : rk μ a = some (.inl c)) (hl : lo ≤ a) : gP lo (mj μ I) a c r = r := if_pos ⟨h, hl⟩
theorem gR_k (h : rr μ a f = some b) (g : Nat → Option α) : gR (rr (mj μ I) a f) g r = g b := by
  rw [rr_j, h]
  rfl
theorem rdA_k (h : rk μ a = some (.inr (t, n))) (hx : 0 ≤ x ∧ x < n ∧ x < 2147483648) : rdA (mj μ I) a t (J x) r = r := by
  unfold rdA
  rw [rk_j, h]
  exact if_pos ⟨rfl, J_aIn hx⟩
theorem wrA_k (h : rk μ a = some (.inr (t, n))) (hl : lo ≤ a) (hx : 0 ≤ x ∧ x < n ∧ x < 2147483648) : wrA lo (mj μ I) a t (J x) r = r := by
  unfold wrA
  rw [rk_j, h]
  exact if_pos ⟨rfl, J_aIn hx, hl⟩
theorem rdB_k (h : rk μ a = some (.inr (t, n))) (ht : t = 1 ∨ t = 2) (hx : 0 ≤ x ∧ x < n ∧ x < 2147483648) : rdB (mj μ I) a (J x) r = r := by
  unfold rdB
  rw [rk_j, h]
  exact if_pos ⟨ht, J_aIn hx⟩
theorem wrB1_k (h : rk μ a = some (.inr (1, n))) (hl : lo ≤ a) (hx : 0 ≤ x ∧ x < n ∧ x < 2147483648) : wrB lo (mj μ I) a (J x) r1 r2 = r1 := by
  unfold wrB
  rw [rk_j, h]
  exact (if_pos ⟨J_aIn hx, hl⟩).trans (if_pos rfl)
theorem wrB2_k (h : rk μ a = some (.inr (2, n))) (hl : lo ≤ a) (hx : 0 ≤ x ∧ x < n ∧ x < 2147483648) : wrB lo (mj μ I) a (J x) r1 r2 = r2 := by
  unfold wrB
  rw [rk_j, h]
  exact (if_pos ⟨J_aIn hx, hl⟩).trans ((if_neg (by intro h; cases h)).trans (if_pos rfl))
theorem rdR_k (h : rk μ a = some (.inr (t, n))) (ht : 4 ≤ t) (hx : 0 ≤ x ∧ x < n ∧ x < 2147483648) : rdR (mj μ I) a (J x) r = r := by
  unfold rdR
  rw [rk_j, h]
  exact if_pos ⟨ht, J_aIn hx⟩
theorem alen_k (h : rk μ a = some (.inr (t, n))) (g : Nat → Option α) : alen (mj μ I) a g = g n := by
  unfold alen
  rw [rk_j, h]
theorem nz_j (h : 0 < x ∧ x < 2147483648) : nz (J x) r = r := by
  unfold nz
  rw [show (0 : Int32) = J 0 from rfl]
  refine if_neg ?_
  rw [J_eq (by omega)]
  omega
end MJ
/-! FROM ONE NUMBER TO ANOTHER -/
theorem tele {α : Type} (f : Int → α) {a n : Int} (h : ∀ i, a ≤ i → i < n → f i = f (i + 1)) (han : a ≤ n) : f a = f n := by
  obtain ⟨m, rfl⟩ : ∃ m : Nat, n = a + m := ⟨(n - a).toNat, by omega⟩
  clear han
  induction m with
  | zero => rw [show a + ((0 : Nat) : Int) = a from by omega]
  | succ m ih =>
    rw [ih (fun i h1 h2 => h i h1 (by omega)), h (a + m) (by omega) (by omega)]
    exact congrArg f (by omega)
section FOLDS
variable {α : Type}
def foN (g : Int → α → α) (a : α) : Nat → α
  | 0 => a
  | n + 1 => g n (foN g a n)
/-- g 0, g 1 .. ahead of n, one after another -/
def fo (g : Int → α → α) (a : α) (n : Int) : α := foN g a n.toNat
theorem fo_0 (g : Int → α → α) (a : α) : fo g a 0 = a := rfl
theorem fo_z (g : Int → α → α) (a : α) {n : Int} (h : n ≤ 0) : fo g a n = a := by
  unfold fo
  rw [show n.toNat = 0 by omega]
  rfl
theorem fo_s (g : Int → α → α) (a : α) {n : Int} (h : 0 ≤ n) : fo g a (n + 1) = g n (fo g a n) := by
  unfold fo
  obtain ⟨m, rfl⟩ : ∃ m : Nat, n = m := ⟨n.toNat, by omega⟩
  rw [show ((m : Int) + 1).toNat = m + 1 by omega, show ((m : Int)).toNat = m by omega]
  rfl
theorem fo_ind (P : Int → α → Prop) (g : Int → α → α) (a : α) {n : Int} (hn : 0 ≤ n) (h0 : P 0 a) (hs : ∀ i x, 0 ≤ i → i < n → P i x → P (i + 1) (g i x)) : P n (fo g a n) := by
  obtain ⟨m, rfl⟩ : ∃ m : Nat, n = m := ⟨n.toNat, by omega⟩
  clear hn
  induction m with
  | zero => exact h0
  | succ m ih =>
    have e : ((m + 1 : Nat) : Int) = (m : Int) + 1 := by omega
    rw [e] at hs ⊢
    rw [fo_s g a (by omega)]
    exact hs m _ (by omega) (by omega) (ih (fun i x h1 h2 h3 => hs i x h1 (by omega) h3))
theorem fo_congr (g g' : Int → α → α) (a : α) {n : Int} (h : ∀ i x, 0 ≤ i → i < n → g i x = g' i x) : fo g a n = fo g' a n := by
  by_cases hn : 0 ≤ n
  · exact fo_ind (fun i x => i ≤ n → x = fo g' a i) g a hn (fun _ => (fo_0 g' a).symm) (fun i x h1 h2 hx h3 => by rw [fo_s g' a h1, ← hx (by omega), h i x h1 h2]) (Int.le_refl n)
  · rw [fo_z g a (by omega), fo_z g' a (by omega)]
end FOLDS
/-- the sum -/
def sm (f : Int → Int) (n : Int) : Int := fo (fun i x => x + f i) 0 n
theorem sm_0 (f : Int → Int) : sm f 0 = 0 := rfl
theorem sm_s (f : Int → Int) {n : Int} (h : 0 ≤ n) : sm f (n + 1) = sm f n + f n := fo_s _ _ h
theorem sm_b (f : Int → Int) {n A B : Int} (hn : 0 ≤ n) (h : ∀ i, 0 ≤ i → i < n → A ≤ f i ∧ f i ≤ B) : A * n ≤ sm f n ∧ sm f n ≤ B * n := by
  refine fo_ind (fun i x => A * i ≤ x ∧ x ≤ B * i) _ _ hn (by omega) ?_
  intro i x h1 h2 h3
  have := h i h1 h2
  rw [Int.mul_add, Int.mul_add]
  omega
theorem sm_congr (f g : Int → Int) {n : Int} (h : ∀ i, 0 ≤ i → i < n → f i = g i) : sm f n = sm g n := fo_congr _ _ _ (fun i x h1 h2 => by rw [h i h1 h2])
/-- some one -/
def an (p : Int → Bool) (n : Int) : Bool := fo (fun i x => x || p i) false n
theorem an_0 (p : Int → Bool) : an p 0 = false := rfl
theorem an_s (p : Int → Bool) {n : Int} (h : 0 ≤ n) : an p (n + 1) = (an p n || p n) := fo_s _ _ h
/-- all -/
def al (p : Int → Bool) (n : Int) : Bool := fo (fun i x => x && p i) true n
theorem al_0 (p : Int → Bool) : al p 0 = true := rfl
theorem al_s (p : Int → Bool) {n : Int} (h : 0 ≤ n) : al p (n + 1) = (al p n && p n) := fo_s _ _ h
theorem an_iff (p : Int → Bool) {n : Int} (hn : 0 ≤ n) : an p n = true ↔ ∃ i, 0 ≤ i ∧ i < n ∧ p i = true := by
  refine fo_ind (fun i x => x = true ↔ ∃ j, 0 ≤ j ∧ j < i ∧ p j = true) _ _ hn ?_ ?_
  · constructor
    · intro h; cases h
    · rintro ⟨j, h1, h2, _⟩; omega
  · intro i x h1 h2 h3
    rw [Bool.or_eq_true, h3]
    constructor
    · rintro (⟨j, q1, q2, q3⟩ | q)
      · exact ⟨j, q1, by omega, q3⟩
      · exact ⟨i, h1, by omega, q⟩
    · rintro ⟨j, q1, q2, q3⟩
      by_cases hj : j = i
      · subst hj; exact Or.inr q3
      · exact Or.inl ⟨j, q1, by omega, q3⟩
theorem al_iff (p : Int → Bool) {n : Int} (hn : 0 ≤ n) : al p n = true ↔ ∀ i, 0 ≤ i → i < n → p i = true := by
  refine fo_ind (fun i x => x = true ↔ ∀ j, 0 ≤ j → j < i → p j = true) _ _ hn ?_ ?_
  · constructor
    · intro _ j h1 h2; omega
    · intro _; rfl
  · intro i x h1 h2 h3
    rw [Bool.and_eq_true, h3]
    constructor
    · rintro ⟨q1, q2⟩ j q3 q4
      by_cases hj : j = i
      · subst hj; exact q2
      · exact q1 j q3 (by omega)
    · intro q
      exact ⟨fun j q1 q2 => q j q1 (by omega), q i h1 (by omega)⟩
section SHAPES
variable {α : Type} {lo b : Nat} {μ : rM} {I : Nat → Int → Int} {x : Int} {r r1 r2 : Option α}
def lsM : List (Nat × Nat × Nat × Nat) := [(0, 1, 0, 4608), (1, 2, 2, 3), (11, 3, 0, 165), (13, 4, 0, 9), (14, 5, 0, 9), (15, 6, 0, 9), (16, 7, 0, 9), (17, 8, 0, 9), (22, 9, 0, 9), (32, 10, 0, 9), (33, 11, 0, 9), (34, 12, 0, 9), (35, 13, 0, 9), (36, 14, 0, 9), (37, 15, 0, 9), (38, 16, 0, 9), (41, 17, 0, 9), (42, 18, 0, 9), (43, 19, 0, 9), (45, 20, 0, 147456), (46, 21, 0, 147456), (47, 22, 0, 9), (50, 23, 0, 9), (51, 24, 0, 64), (52, 25, 0, 2048)]
/-- an object of class 12 at b -/
def ShM (μ : rM) (b : Nat) : Prop := rk μ b = some (.inl 12) ∧ ∀ q ∈ lsM, rr μ b q.1 = some (b + q.2.1) ∧ rk μ (b + q.2.1) = some (.inr (q.2.2.1, q.2.2.2))
theorem gO_M (h : ShM μ b) : gO (mj μ I) b 12 r = r := gO_k h.1
theorem gP_M (h : ShM μ b) (hl : lo ≤ b) : gP lo (mj μ I) b 12 r = r := gP_k h.1 hl
theorem gR_M0 (h : ShM μ b) (g : Nat → Option α) : gR (rr (mj μ I) b 0) g r = g (b + 1) := gR_k (h.2 (0, 1, 0, 4608) (by decide)).1 g
theorem al_M1 (h : ShM μ b) (g : Nat → Option α) : alen (mj μ I) (b + 1) g = g 4608 := alen_k (h.2 (0, 1, 0, 4608) (by decide)).2 g
theorem rd_M1 (h : ShM μ b) (hx : 0 ≤ x ∧ x < 4608) : rdA (mj μ I) (b + 1) 0 (J x) r = r := rdA_k (t := 0) (n := 4608) (h.2 (0, 1, 0, 4608) (by decide)).2 (by omega)
theorem wr_M1 (h : ShM μ b) (hl : lo ≤ b) (hx : 0 ≤ x ∧ x < 4608) : wrA lo (mj μ I) (b + 1) 0 (J x) r = r := wrA_k (t := 0) (n := 4608) (h.2 (0, 1, 0, 4608) (by decide)).2 (by omega) (by omega)
theorem gR_M1 (h : ShM μ b) (g : Nat → Option α) : gR (rr (mj μ I) b 1) g r = g (b + 2) := gR_k (h.2 (1, 2, 2, 3) (by decide)).1 g
theorem al_M2 (h : ShM μ b) (g : Nat → Option α) : alen (mj μ I) (b + 2) g = g 3 := alen_k (h.2 (1, 2, 2, 3) (by decide)).2 g
theorem rd_M2 (h : ShM μ b) (hx : 0 ≤ x ∧ x < 3) : rdB (mj μ I) (b + 2) (J x) r = r := rdB_k (t := 2) (n := 3) (h.2 (1, 2, 2, 3) (by decide)).2 (by decide) (by omega)
theorem wr_M2 (h : ShM μ b) (hl : lo ≤ b) (hx : 0 ≤ x ∧ x < 3) : wrB lo (mj μ I) (b + 2) (J x) r1 r2 = r2 := wrB2_k (n := 3) (h.2 (1, 2, 2, 3) (by decide)).2 (by omega) (by omega)
theorem gR_M11 (h : ShM μ b) (g : Nat → Option α) : gR (rr (mj μ I) b 11) g r = g (b + 3) := gR_k (h.2 (11, 3, 0, 165) (by decide)).1 g
theorem al_M3 (h : ShM μ b) (g : Nat → Option α) : alen (mj μ I) (b + 3) g = g 165 := alen_k (h.2 (11, 3, 0, 165) (by decide)).2 g
theorem rd_M3 (h : ShM μ b) (hx : 0 ≤ x ∧ x < 165) : rdA (mj μ I) (b + 3) 0 (J x) r = r := rdA_k (t := 0) (n := 165) (h.2 (11, 3, 0, 165) (by decide)).2 (by omega)
theorem wr_M3 (h : ShM μ b) (hl : lo ≤ b) (hx : 0 ≤ x ∧ x < 165) : wrA lo (mj μ I) (b + 3) 0 (J x) r = r := wrA_k (t := 0) (n := 165) (h.2 (11, 3, 0, 165) (by decide)).2 (by omega) (by omega)
theorem gR_M13 (h : ShM μ b) (g : Nat → Option α) : gR (rr (mj μ I) b 13) g r = g (b + 4) := gR_k (h.2 (13, 4, 0, 9) (by decide)).1 g
theorem al_M4 (h : ShM μ b) (g : Nat → Option α) : alen (mj μ I) (b + 4) g = g 9 := alen_k (h.2 (13, 4, 0, 9) (by decide)).2 g
theorem rd_M4 (h : ShM μ b) (hx : 0 ≤ x ∧ x < 9) : rdA (mj μ I) (b + 4) 0 (J x) r = r := rdA_k (t := 0) (n := 9) (h.2 (13, 4, 0, 9) (by decide)).2 (by omega)
theorem wr_M4 (h : ShM μ b) (hl : lo ≤ b) (hx : 0 ≤ x ∧ x < 9) : wrA lo (mj μ I) (b + 4) 0 (J x) r = r := wrA_k (t := 0) (n := 9) (h.2 (13, 4, 0, 9) (by decide)).2 (by omega) (by omega)
theorem gR_M14 (h : ShM μ b) (g : Nat → Option α) : gR (rr (mj μ I) b 14) g r = g (b + 5) := gR_k (h.2 (14, 5, 0, 9) (by decide)).1 g
theorem al_M5 (h : ShM μ b) (g : Nat → Option α) : alen (mj μ I) (b + 5) g = g 9 := alen_k (h.2 (14, 5, 0, 9) (by decide)).2 g
theorem rd_M5 (h : ShM μ b) (hx : 0 ≤ x ∧ x < 9) : rdA (mj μ I) (b + 5) 0 (J x) r = r := rdA_k (t := 0) (n := 9) (h.2 (14, 5, 0, 9) (by decide)).2 (by omega)
theorem wr_M5 (h : ShM μ b) (hl : lo ≤ b) (hx : 0 ≤ x ∧ x < 9) : wrA lo (mj μ I) (b + 5) 0 (J x) r = r := wrA_k (t := 0) (n := 9) (h.2 (14, 5, 0, 9) (by decide)).2 (by omega) (by omega)
theorem gR_M15 (h : ShM μ b) (g : Nat → Option α) : gR (rr (mj μ I) b 15) g r = g (b + 6) := gR_k (h.2 (15, 6, 0, 9) (by decide)).1 g
theorem al_M6 (h : ShM μ b) (g : Nat → Option α) : alen (mj μ I) (b + 6) g = g 9 := alen_k (h.2 (15, 6, 0, 9) (by decide)).2 g
theorem rd_M6 (h : ShM μ b) (hx : 0 ≤ x ∧ x < 9) : rdA (mj μ I) (b + 6) 0 (J x) r = r := rdA_k (t := 0) (n := 9) (h.2 (15, 6, 0, 9) (by decide)).2 (by omega)
theorem wr_M6 (h : ShM μ b) (hl : lo ≤ b) (hx : 0 ≤ x ∧ x < 9) : wrA lo (mj μ I) (b + 6) 0 (J x) r = r := wrA_k (t := 0) (n := 9) (h.2 (15, 6, 0, 9) (by decide)).2 (by omega) (by omega)
theorem gR_M16 (h : ShM μ b) (g : Nat → Option α) : gR (rr (mj μ I) b 16) g r = g (b + 7) := gR_k (h.2 (16, 7, 0, 9) (by decide)).1 g
theorem al_M7 (h : ShM μ b) (g : Nat → Option α) : alen (mj μ I) (b + 7) g = g 9 := alen_k (h.2 (16, 7, 0, 9) (by decide)).2 g
theorem rd_M7 (h : ShM μ b) (hx : 0 ≤ x ∧ x < 9) : rdA (mj μ I) (b + 7) 0 (J x) r = r := rdA_k (t := 0) (n := 9) (h.2 (16, 7, 0, 9) (by decide)).2 (by omega)
theorem wr_M7 (h : ShM μ b) (hl : lo ≤ b) (hx : 0 ≤ x ∧ x < 9) : wrA lo (mj μ I) (b + 7) 0 (J x) r = r := wrA_k (t := 0) (n := 9) (h.2 (16, 7, 0, 9) (by decide)).2 (by omega) (by omega)
theorem gR_M17 (h : ShM μ b) (g : Nat → Option α) : gR (rr (mj μ I) b 17) g r = g (b + 8) := gR_k (h.2 (17, 8, 0, 9) (by decide)).1 g
theorem al_M8 (h : ShM μ b) (g : Nat → Option α) : alen (mj μ I) (b + 8) g = g 9 := alen_k (h.2 (17, 8, 0, 9) (by decide)).2 g
theorem rd_M8 (h : ShM μ b) (hx : 0 ≤ x ∧ x < 9) : rdA (mj μ I) (b + 8) 0 (J x) r = r := rdA_k (t := 0) (n := 9) (h.2 (17, 8, 0, 9) (by decide)).2 (by omega)
theorem wr_M8 (h : ShM μ b) (hl : lo ≤ b) (hx : 0 ≤ x ∧ x < 9) : wrA lo (mj μ I) (b + 8) 0 (J x) r = r := wrA_k (t := 0) (n := 9) (h.2 (17, 8, 0, 9) (by decide)).2 (by omega) (by omega)
theorem gR_M22 (h : ShM μ b) (g : Nat → Option α) : gR (rr (mj μ I) b 22) g r = g (b + 9) := gR_k (h.2 (22, 9, 0, 9) (by decide)).1 g
theorem al_M9 (h : ShM μ b) (g : Nat → Option α) : alen (mj μ I) (b + 9) g = g 9 := alen_k (h.2 (22, 9, 0, 9) (by decide)).2 g
theorem rd_M9 (h : ShM μ b) (hx : 0 ≤ x ∧ x < 9) : rdA (mj μ I) (b + 9) 0 (J x) r = r := rdA_k (t := 0) (n := 9) (h.2 (22, 9, 0, 9) (by decide)).2 (by omega)
theorem wr_M9 (h : ShM μ b) (hl : lo ≤ b) (hx : 0 ≤ x ∧ x < 9) : wrA lo (mj μ I) (b + 9) 0 (J x) r = r := wrA_k (t := 0) (n := 9) (h.2 (22, 9, 0, 9) (by decide)).2 (by omega) (by omega)
theorem gR_M32 (h : ShM μ b) (g : Nat → Option α) : gR (rr (mj μ I) b 32) g r = g (b + 10) := gR_k (h.2 (32, 10, 0, 9) (by decide)).1 g
theorem al_M10 (h : ShM μ b) (g : Nat → Option α) : alen (mj μ I) (b + 10) g = g 9 := alen_k (h.2 (32, 10, 0, 9) (by decide)).2 g
theorem rd_M10 (h : ShM μ b) (hx : 0 ≤ x ∧ x < 9) : rdA (mj μ I) (b + 10) 0 (J x) r = r := rdA_k (t := 0) (n := 9) (h.2 (32, 10, 0, 9) (by decide)).2 (by omega)
theorem wr_M10 (h : ShM μ b) (hl : lo ≤ b) (hx : 0 ≤ x ∧ x < 9) : wrA lo (mj μ I) (b + 10) 0 (J x) r = r := wrA_k (t := 0) (n := 9) (h.2 (32, 10, 0, 9) (by decide)).2 (by omega) (by omega)
theorem gR_M33 (h : ShM μ b) (g : Nat → Option α) : gR (rr (mj μ I) b 33) g r = g (b + 11) := gR_k (h.2 (33, 11, 0, 9) (by decide)).1 g
theorem al_M11 (h : ShM μ b) (g : Nat → Option α) : alen (mj μ I) (b + 11) g = g 9 := alen_k (h.2 (33, 11, 0, 9) (by decide)).2 g
theorem rd_M11 (h : ShM μ b) (hx : 0 ≤ x ∧ x < 9) : rdA (mj μ I) (b + 11) 0 (J x) r = r := rdA_k (t := 0) (n := 9) (h.2 (33, 11, 0, 9) (by decide)).2 (by omega)
theorem wr_M11 (h : ShM μ b) (hl : lo ≤ b) (hx : 0 ≤ x ∧ x < 9) : wrA lo (mj μ I) (b + 11) 0 (J x) r = r := wrA_k (t := 0) (n := 9) (h.2 (33, 11, 0, 9) (by decide)).2 (by omega) (by omega)
theorem gR_M34 (h : ShM μ b) (g : Nat → Option α) : gR (rr (mj μ I) b 34) g r = g (b + 12) := gR_k (h.2 (34, 12, 0, 9) (by decide)).1 g
theorem al_M12 (h : ShM μ b) (g : Nat → Option α) : alen (mj μ I) (b + 12) g = g 9 := alen_k (h.2 (34, 12, 0, 9) (by decide)).2 g
theorem rd_M12 (h : ShM μ b) (hx : 0 ≤ x ∧ x < 9) : rdA (mj μ I) (b + 12) 0 (J x) r = r := rdA_k (t := 0) (n := 9) (h.2 (34, 12, 0, 9) (by decide)).2 (by omega)
theorem wr_M12 (h : ShM μ b) (hl : lo ≤ b) (hx : 0 ≤ x ∧ x < 9) : wrA lo (mj μ I) (b + 12) 0 (J x) r = r := wrA_k (t := 0) (n := 9) (h.2 (34, 12, 0, 9) (by decide)).2 (by omega) (by omega)
theorem gR_M35 (h : ShM μ b) (g : Nat → Option α) : gR (rr (mj μ I) b 35) g r = g (b + 13) := gR_k (h.2 (35, 13, 0, 9) (by decide)).1 g
theorem al_M13 (h : ShM μ b) (g : Nat → Option α) : alen (mj μ I) (b + 13) g = g 9 := alen_k (h.2 (35, 13, 0, 9) (by decide)).2 g
theorem rd_M13 (h : ShM μ b) (hx : 0 ≤ x ∧ x < 9) : rdA (mj μ I) (b + 13) 0 (J x) r = r := rdA_k (t := 0) (n := 9) (h.2 (35, 13, 0, 9) (by decide)).2 (by omega)
theorem wr_M13 (h : ShM μ b) (hl : lo ≤ b) (hx : 0 ≤ x ∧ x < 9) : wrA lo (mj μ I) (b + 13) 0 (J x) r = r := wrA_k (t := 0) (n := 9) (h.2 (35, 13, 0, 9) (by decide)).2 (by omega) (by omega)
theorem gR_M36 (h : ShM μ b) (g : Nat → Option α) : gR (rr (mj μ I) b 36) g r = g (b + 14) := gR_k (h.2 (36, 14, 0, 9) (by decide)).1 g
theorem al_M14 (h : ShM μ b) (g : Nat → Option α) : alen (mj μ I) (b + 14) g = g 9 := alen_k (h.2 (36, 14, 0, 9) (by decide)).2 g
theorem rd_M14 (h : ShM μ b) (hx : 0 ≤ x ∧ x < 9) : rdA (mj μ I) (b + 14) 0 (J x) r = r := rdA_k (t := 0) (n := 9) (h.2 (36, 14, 0, 9) (by decide)).2 (by omega)
theorem wr_M14 (h : ShM μ b) (hl : lo ≤ b) (hx : 0 ≤ x ∧ x < 9) : wrA lo (mj μ I) (b + 14) 0 (J x) r = r := wrA_k (t := 0) (n := 9) (h.2 (36, 14, 0, 9) (by decide)).2 (by omega) (by omega)
theorem gR_M37 (h : ShM μ b) (g : Nat → Option α) : gR (rr (mj μ I) b 37) g r = g (b + 15) := gR_k (h.2 (37, 15, 0, 9) (by decide)).1 g
theorem al_M15 (h : ShM μ b) (g : Nat → Option α) : alen (mj μ I) (b + 15) g = g 9 := alen_k (h.2 (37, 15, 0, 9) (by decide)).2 g
theorem rd_M15 (h : ShM μ b) (hx : 0 ≤ x ∧ x < 9) : rdA (mj μ I) (b + 15) 0 (J x) r = r := rdA_k (t := 0) (n := 9) (h.2 (37, 15, 0, 9) (by decide)).2 (by omega)
theorem wr_M15 (h : ShM μ b) (hl : lo ≤ b) (hx : 0 ≤ x ∧ x < 9) : wrA lo (mj μ I) (b + 15) 0 (J x) r = r := wrA_k (t := 0) (n := 9) (h.2 (37, 15, 0, 9) (by decide)).2 (by omega) (by omega)
theorem gR_M38 (h : ShM μ b) (g : Nat → Option α) : gR (rr (mj μ I) b 38) g r = g (b + 16) := gR_k (h.2 (38, 16, 0, 9) (by decide)).1 g
theorem al_M16 (h : ShM μ b) (g : Nat → Option α) : alen (mj μ I) (b + 16) g = g 9 := alen_k (h.2 (38, 16, 0, 9) (by decide)).2 g
theorem rd_M16 (h : ShM μ b) (hx : 0 ≤ x ∧ x < 9) : rdA (mj μ I) (b + 16) 0 (J x) r = r := rdA_k (t := 0) (n := 9) (h.2 (38, 16, 0, 9) (by decide)).2 (by omega)
theorem wr_M16 (h : ShM μ b) (hl : lo ≤ b) (hx : 0 ≤ x ∧ x < 9) : wrA lo (mj μ I) (b + 16) 0 (J x) r = r := wrA_k (t := 0) (n := 9) (h.2 (38, 16, 0, 9) (by decide)).2 (by omega) (by omega)
theorem gR_M41 (h : ShM μ b) (g : Nat → Option α) : gR (rr (mj μ I) b 41) g r = g (b + 17) := gR_k (h.2 (41, 17, 0, 9) (by decide)).1 g
theorem al_M17 (h : ShM μ b) (g : Nat → Option α) : alen (mj μ I) (b + 17) g = g 9 := alen_k (h.2 (41, 17, 0, 9) (by decide)).2 g
theorem rd_M17 (h : ShM μ b) (hx : 0 ≤ x ∧ x < 9) : rdA (mj μ I) (b + 17) 0 (J x) r = r := rdA_k (t := 0) (n := 9) (h.2 (41, 17, 0, 9) (by decide)).2 (by omega)
theorem wr_M17 (h : ShM μ b) (hl : lo ≤ b) (hx : 0 ≤ x ∧ x < 9) : wrA lo (mj μ I) (b + 17) 0 (J x) r = r := wrA_k (t := 0) (n := 9) (h.2 (41, 17, 0, 9) (by decide)).2 (by omega) (by omega)
theorem gR_M42 (h : ShM μ b) (g : Nat → Option α) : gR (rr (mj μ I) b 42) g r = g (b + 18) := gR_k (h.2 (42, 18, 0, 9) (by decide)).1 g
theorem al_M18 (h : ShM μ b) (g : Nat → Option α) : alen (mj μ I) (b + 18) g = g 9 := alen_k (h.2 (42, 18, 0, 9) (by decide)).2 g
theorem rd_M18 (h : ShM μ b) (hx : 0 ≤ x ∧ x < 9) : rdA (mj μ I) (b + 18) 0 (J x) r = r := rdA_k (t := 0) (n := 9) (h.2 (42, 18, 0, 9) (by decide)).2 (by omega)
theorem wr_M18 (h : ShM μ b) (hl : lo ≤ b) (hx : 0 ≤ x ∧ x < 9) : wrA lo (mj μ I) (b + 18) 0 (J x) r = r := wrA_k (t := 0) (n := 9) (h.2 (42, 18, 0, 9) (by decide)).2 (by omega) (by omega)
theorem gR_M43 (h : ShM μ b) (g : Nat → Option α) : gR (rr (mj μ I) b 43) g r = g (b + 19) := gR_k (h.2 (43, 19, 0, 9) (by decide)).1 g
theorem al_M19 (h : ShM μ b) (g : Nat → Option α) : alen (mj μ I) (b + 19) g = g 9 := alen_k (h.2 (43, 19, 0, 9) (by decide)).2 g
theorem rd_M19 (h : ShM μ b) (hx : 0 ≤ x ∧ x < 9) : rdA (mj μ I) (b + 19) 0 (J x) r = r := rdA_k (t := 0) (n := 9) (h.2 (43, 19, 0, 9) (by decide)).2 (by omega)
theorem wr_M19 (h : ShM μ b) (hl : lo ≤ b) (hx : 0 ≤ x ∧ x < 9) : wrA lo (mj μ I) (b + 19) 0 (J x) r = r := wrA_k (t := 0) (n := 9) (h.2 (43, 19, 0, 9) (by decide)).2 (by omega) (by omega)
theorem gR_M45 (h : ShM μ b) (g : Nat → Option α) : gR (rr (mj μ I) b 45) g r = g (b + 20) := gR_k (h.2 (45, 20, 0, 147456) (by decide)).1 g
theorem al_M20 (h : ShM μ b) (g : Nat → Option α) : alen (mj μ I) (b + 20) g = g 147456 := alen_k (h.2 (45, 20, 0, 147456) (by decide)).2 g
theorem rd_M20 (h : ShM μ b) (hx : 0 ≤ x ∧ x < 147456) : rdA (mj μ I) (b + 20) 0 (J x) r = r := rdA_k (t := 0) (n := 147456) (h.2 (45, 20, 0, 147456) (by decide)).2 (by omega)
theorem wr_M20 (h : ShM μ b) (hl : lo ≤ b) (hx : 0 ≤ x ∧ x < 147456) : wrA lo (mj μ I) (b + 20) 0 (J x) r = r := wrA_k (t := 0) (n := 147456) (h.2 (45, 20, 0, 147456) (by decide)).2 (by omega) (by omega)
theorem gR_M46 (h : ShM μ b) (g : Nat → Option α) : gR (rr (mj μ I) b 46) g r = g (b + 21) := gR_k (h.2 (46, 21, 0, 147456) (by decide)).1 g
theorem al_M21 (h : ShM μ b) (g : Nat → Option α) : alen (mj μ I) (b + 21) g = g 147456 := alen_k (h.2 (46, 21, 0, 147456) (by decide)).2 g
theorem rd_M21 (h : ShM μ b) (hx : 0 ≤ x ∧ x < 147456) : rdA (mj μ I) (b + 21) 0 (J x) r = r := rdA_k (t := 0) (n := 147456) (h.2 (46, 21, 0, 147456) (by decide)).2 (by omega)
theorem wr_M21 (h : ShM μ b) (hl : lo ≤ b) (hx : 0 ≤ x ∧ x < 147456) : wrA lo (mj μ I) (b + 21) 0 (J x) r = r := wrA_k (t := 0) (n := 147456) (h.2 (46, 21, 0, 147456) (by decide)).2 (by omega) (by omega)
theorem gR_M47 (h : ShM μ b) (g : Nat → Option α) : gR (rr (mj μ I) b 47) g r = g (b + 22) := gR_k (h.2 (47, 22, 0, 9) (by decide)).1 g
theorem al_M22 (h : ShM μ b) (g : Nat → Option α) : alen (mj μ I) (b + 22) g = g 9 := alen_k (h.2 (47, 22, 0, 9) (by decide)).2 g
theorem rd_M22 (h : ShM μ b) (hx : 0 ≤ x ∧ x < 9) : rdA (mj μ I) (b + 22) 0 (J x) r = r := rdA_k (t := 0) (n := 9) (h.2 (47, 22, 0, 9) (by decide)).2 (by omega)
theorem wr_M22 (h : ShM μ b) (hl : lo ≤ b) (hx : 0 ≤ x ∧ x < 9) : wrA lo (mj μ I) (b + 22) 0 (J x) r = r := wrA_k (t := 0) (n := 9) (h.2 (47, 22, 0, 9) (by decide)).2 (by omega) (by omega)
theorem gR_M50 (h : ShM μ b) (g : Nat → Option α) : gR (rr (mj μ I) b 50) g r = g (b + 23) := gR_k (h.2 (50, 23, 0, 9) (by decide)).1 g
theorem al_M23 (h : ShM μ b) (g : Nat → Option α) : alen (mj μ I) (b + 23) g = g 9 := alen_k (h.2 (50, 23, 0, 9) (by decide)).2 g
theorem rd_M23 (h : ShM μ b) (hx : 0 ≤ x ∧ x < 9) : rdA (mj μ I) (b + 23) 0 (J x) r = r := rdA_k (t := 0) (n := 9) (h.2 (50, 23, 0, 9) (by decide)).2 (by omega)
theorem wr_M23 (h : ShM μ b) (hl : lo ≤ b) (hx : 0 ≤ x ∧ x < 9) : wrA lo (mj μ I) (b + 23) 0 (J x) r = r := wrA_k (t := 0) (n := 9) (h.2 (50, 23, 0, 9) (by decide)).2 (by omega) (by omega)
theorem gR_M51 (h : ShM μ b) (g : Nat → Option α) : gR (rr (mj μ I) b 51) g r = g (b + 24) := gR_k (h.2 (51, 24, 0, 64) (by decide)).1 g
theorem al_M24 (h : ShM μ b) (g : Nat → Option α) : alen (mj μ I) (b + 24) g = g 64 := alen_k (h.2 (51, 24, 0, 64) (by decide)).2 g
theorem rd_M24 (h : ShM μ b) (hx : 0 ≤ x ∧ x < 64) : rdA (mj μ I) (b + 24) 0 (J x) r = r := rdA_k (t := 0) (n := 64) (h.2 (51, 24, 0, 64) (by decide)).2 (by omega)
theorem wr_M24 (h : ShM μ b) (hl : lo ≤ b) (hx : 0 ≤ x ∧ x < 64) : wrA lo (mj μ I) (b + 24) 0 (J x) r = r := wrA_k (t := 0) (n := 64) (h.2 (51, 24, 0, 64) (by decide)).2 (by omega) (by omega)
theorem gR_M52 (h : ShM μ b) (g : Nat → Option α) : gR (rr (mj μ I) b 52) g r = g (b + 25) := gR_k (h.2 (52, 25, 0, 2048) (by decide)).1 g
theorem al_M25 (h : ShM μ b) (g : Nat → Option α) : alen (mj μ I) (b + 25) g = g 2048 := alen_k (h.2 (52, 25, 0, 2048) (by decide)).2 g
theorem rd_M25 (h : ShM μ b) (hx : 0 ≤ x ∧ x < 2048) : rdA (mj μ I) (b + 25) 0 (J x) r = r := rdA_k (t := 0) (n := 2048) (h.2 (52, 25, 0, 2048) (by decide)).2 (by omega)
theorem wr_M25 (h : ShM μ b) (hl : lo ≤ b) (hx : 0 ≤ x ∧ x < 2048) : wrA lo (mj μ I) (b + 25) 0 (J x) r = r := wrA_k (t := 0) (n := 2048) (h.2 (52, 25, 0, 2048) (by decide)).2 (by omega) (by omega)
def lsC : List (Nat × Nat × Nat × Nat) := [(1, 1, 0, 8)]
/-- an object of class 0 at b -/
def ShC (μ : rM) (b : Nat) : Prop := rk μ b = some (.inl 0) ∧ ∀ q ∈ lsC, rr μ b q.1 = some (b + q.2.1) ∧ rk μ (b + q.2.1) = some (.inr (q.2.2.1, q.2.2.2))
theorem gO_C (h : ShC μ b) : gO (mj μ I) b 0 r = r := gO_k h.1
theorem gP_C (h : ShC μ b) (hl : lo ≤ b) : gP lo (mj μ I) b 0 r = r := gP_k h.1 hl
theorem gR_C1 (h : ShC μ b) (g : Nat → Option α) : gR (rr (mj μ I) b 1) g r = g (b + 1) := gR_k (h.2 (1, 1, 0, 8) (by decide)).1 g
theorem al_C1 (h : ShC μ b) (g : Nat → Option α) : alen (mj μ I) (b + 1) g = g 8 := alen_k (h.2 (1, 1, 0, 8) (by decide)).2 g
theorem rd_C1 (h : ShC μ b) (hx : 0 ≤ x ∧ x < 8) : rdA (mj μ I) (b + 1) 0 (J x) r = r := rdA_k (t := 0) (n := 8) (h.2 (1, 1, 0, 8) (by decide)).2 (by omega)
theorem wr_C1 (h : ShC μ b) (hl : lo ≤ b) (hx : 0 ≤ x ∧ x < 8) : wrA lo (mj μ I) (b + 1) 0 (J x) r = r := wrA_k (t := 0) (n := 8) (h.2 (1, 1, 0, 8) (by decide)).2 (by omega) (by omega)
def lsL : List (Nat × Nat × Nat × Nat) := [(5, 1, 0, 9)]
/-- an object of class 1 at b -/
def ShL (μ : rM) (b : Nat) : Prop := rk μ b = some (.inl 1) ∧ ∀ q ∈ lsL, rr μ b q.1 = some (b + q.2.1) ∧ rk μ (b + q.2.1) = some (.inr (q.2.2.1, q.2.2.2))
theorem gO_L (h : ShL μ b) : gO (mj μ I) b 1 r = r := gO_k h.1
theorem gP_L (h : ShL μ b) (hl : lo ≤ b) : gP lo (mj μ I) b 1 r = r := gP_k h.1 hl
theorem gR_L5 (h : ShL μ b) (g : Nat → Option α) : gR (rr (mj μ I) b 5) g r = g (b + 1) := gR_k (h.2 (5, 1, 0, 9) (by decide)).1 g
theorem al_L1 (h : ShL μ b) (g : Nat → Option α) : alen (mj μ I) (b + 1) g = g 9 := alen_k (h.2 (5, 1, 0, 9) (by decide)).2 g
theorem rd_L1 (h : ShL μ b) (hx : 0 ≤ x ∧ x < 9) : rdA (mj μ I) (b + 1) 0 (J x) r = r := rdA_k (t := 0) (n := 9) (h.2 (5, 1, 0, 9) (by decide)).2 (by omega)
theorem wr_L1 (h : ShL μ b) (hl : lo ≤ b) (hx : 0 ≤ x ∧ x < 9) : wrA lo (mj μ I) (b + 1) 0 (J x) r = r := wrA_k (t := 0) (n := 9) (h.2 (5, 1, 0, 9) (by decide)).2 (by omega) (by omega)
def lsR : List (Nat × Nat × Nat × Nat) := [(3, 1, 0, 40), (4, 2, 0, 40)]
/-- an object of class 5 at b -/
def ShR (μ : rM) (b : Nat) : Prop := rk μ b = some (.inl 5) ∧ ∀ q ∈ lsR, rr μ b q.1 = some (b + q.2.1) ∧ rk μ (b + q.2.1) = some (.inr (q.2.2.1, q.2.2.2))
theorem gO_R (h : ShR μ b) : gO (mj μ I) b 5 r = r := gO_k h.1
theorem gP_R (h : ShR μ b) (hl : lo ≤ b) : gP lo (mj μ I) b 5 r = r := gP_k h.1 hl
theorem gR_R3 (h : ShR μ b) (g : Nat → Option α) : gR (rr (mj μ I) b 3) g r = g (b + 1) := gR_k (h.2 (3, 1, 0, 40) (by decide)).1 g
theorem al_R1 (h : ShR μ b) (g : Nat → Option α) : alen (mj μ I) (b + 1) g = g 40 := alen_k (h.2 (3, 1, 0, 40) (by decide)).2 g
theorem rd_R1 (h : ShR μ b) (hx : 0 ≤ x ∧ x < 40) : rdA (mj μ I) (b + 1) 0 (J x) r = r := rdA_k (t := 0) (n := 40) (h.2 (3, 1, 0, 40) (by decide)).2 (by omega)
theorem wr_R1 (h : ShR μ b) (hl : lo ≤ b) (hx : 0 ≤ x ∧ x < 40) : wrA lo (mj μ I) (b + 1) 0 (J x) r = r := wrA_k (t := 0) (n := 40) (h.2 (3, 1, 0, 40) (by decide)).2 (by omega) (by omega)
theorem gR_R4 (h : ShR μ b) (g : Nat → Option α) : gR (rr (mj μ I) b 4) g r = g (b + 2) := gR_k (h.2 (4, 2, 0, 40) (by decide)).1 g
theorem al_R2 (h : ShR μ b) (g : Nat → Option α) : alen (mj μ I) (b + 2) g = g 40 := alen_k (h.2 (4, 2, 0, 40) (by decide)).2 g
theorem rd_R2 (h : ShR μ b) (hx : 0 ≤ x ∧ x < 40) : rdA (mj μ I) (b + 2) 0 (J x) r = r := rdA_k (t := 0) (n := 40) (h.2 (4, 2, 0, 40) (by decide)).2 (by omega)
theorem wr_R2 (h : ShR μ b) (hl : lo ≤ b) (hx : 0 ≤ x ∧ x < 40) : wrA lo (mj μ I) (b + 2) 0 (J x) r = r := wrA_k (t := 0) (n := 40) (h.2 (4, 2, 0, 40) (by decide)).2 (by omega) (by omega)
def lsS : List (Nat × Nat × Nat × Nat) := [(2, 1, 0, 64), (4, 2, 0, 9), (5, 3, 0, 9), (6, 4, 0, 9), (7, 5, 0, 9), (8, 6, 0, 9), (9, 7, 0, 9), (10, 8, 0, 9), (11, 9, 0, 9), (12, 10, 0, 9), (14, 11, 0, 9), (15, 12, 0, 9)]
/-- an object of class 7 at b -/
def ShS (μ : rM) (b : Nat) : Prop := rk μ b = some (.inl 7) ∧ ∀ q ∈ lsS, rr μ b q.1 = some (b + q.2.1) ∧ rk μ (b + q.2.1) = some (.inr (q.2.2.1, q.2.2.2))
theorem gO_S (h : ShS μ b) : gO (mj μ I) b 7 r = r := gO_k h.1
theorem gP_S (h : ShS μ b) (hl : lo ≤ b) : gP lo (mj μ I) b 7 r = r := gP_k h.1 hl
theorem gR_S2 (h : ShS μ b) (g : Nat → Option α) : gR (rr (mj μ I) b 2) g r = g (b + 1) := gR_k (h.2 (2, 1, 0, 64) (by decide)).1 g
theorem al_S1 (h : ShS μ b) (g : Nat → Option α) : alen (mj μ I) (b + 1) g = g 64 := alen_k (h.2 (2, 1, 0, 64) (by decide)).2 g
theorem rd_S1 (h : ShS μ b) (hx : 0 ≤ x ∧ x < 64) : rdA (mj μ I) (b + 1) 0 (J x) r = r := rdA_k (t := 0) (n := 64) (h.2 (2, 1, 0, 64) (by decide)).2 (by omega)
theorem wr_S1 (h : ShS μ b) (hl : lo ≤ b) (hx : 0 ≤ x ∧ x < 64) : wrA lo (mj μ I) (b + 1) 0 (J x) r = r := wrA_k (t := 0) (n := 64) (h.2 (2, 1, 0, 64) (by decide)).2 (by omega) (by omega)
theorem gR_S4 (h : ShS μ b) (g : Nat → Option α) : gR (rr (mj μ I) b 4) g r = g (b + 2) := gR_k (h.2 (4, 2, 0, 9) (by decide)).1 g
theorem al_S2 (h : ShS μ b) (g : Nat → Option α) : alen (mj μ I) (b + 2) g = g 9 := alen_k (h.2 (4, 2, 0, 9) (by decide)).2 g
theorem rd_S2 (h : ShS μ b) (hx : 0 ≤ x ∧ x < 9) : rdA (mj μ I) (b + 2) 0 (J x) r = r := rdA_k (t := 0) (n := 9) (h.2 (4, 2, 0, 9) (by decide)).2 (by omega)
theorem wr_S2 (h : ShS μ b) (hl : lo ≤ b) (hx : 0 ≤ x ∧ x < 9) : wrA lo (mj μ I) (b + 2) 0 (J x) r = r := wrA_k (t := 0) (n := 9) (h.2 (4, 2, 0, 9) (by decide)).2 (by omega) (by omega)
theorem gR_S5 (h : ShS μ b) (g : Nat → Option α) : gR (rr (mj μ I) b 5) g r = g (b + 3) := gR_k (h.2 (5, 3, 0, 9) (by decide)).1 g
theorem al_S3 (h : ShS μ b) (g : Nat → Option α) : alen (mj μ I) (b + 3) g = g 9 := alen_k (h.2 (5, 3, 0, 9) (by decide)).2 g
theorem rd_S3 (h : ShS μ b) (hx : 0 ≤ x ∧ x < 9) : rdA (mj μ I) (b + 3) 0 (J x) r = r := rdA_k (t := 0) (n := 9) (h.2 (5, 3, 0, 9) (by decide)).2 (by omega)
theorem wr_S3 (h : ShS μ b) (hl : lo ≤ b) (hx : 0 ≤ x ∧ x < 9) : wrA lo (mj μ I) (b + 3) 0 (J x) r = r := wrA_k (t := 0) (n := 9) (h.2 (5, 3, 0, 9) (by decide)).2 (by omega) (by omega)
theorem gR_S6 (h : ShS μ b) (g : Nat → Option α) : gR (rr (mj μ I) b 6) g r = g (b + 4) := gR_k (h.2 (6, 4, 0, 9) (by decide)).1 g
theorem al_S4 (h : ShS μ b) (g : Nat → Option α) : alen (mj μ I) (b + 4) g = g 9 := alen_k (h.2 (6, 4, 0, 9) (by decide)).2 g
theorem rd_S4 (h : ShS μ b) (hx : 0 ≤ x ∧ x < 9) : rdA (mj μ I) (b + 4) 0 (J x) r = r := rdA_k (t := 0) (n := 9) (h.2 (6, 4, 0, 9) (by decide)).2 (by omega)
theorem wr_S4 (h : ShS μ b) (hl : lo ≤ b) (hx : 0 ≤ x ∧ x < 9) : wrA lo (mj μ I) (b + 4) 0 (J x) r = r := wrA_k (t := 0) (n := 9) (h.2 (6, 4, 0, 9) (by decide)).2 (by omega) (by omega)
theorem gR_S7 (h : ShS μ b) (g : Nat → Option α) : gR (rr (mj μ I) b 7) g r = g (b + 5) := gR_k (h.2 (7, 5, 0, 9) (by decide)).1 g
theorem al_S5 (h : ShS μ b) (g : Nat → Option α) : alen (mj μ I) (b + 5) g = g 9 := alen_k (h.2 (7, 5, 0, 9) (by decide)).2 g
theorem rd_S5 (h : ShS μ b) (hx : 0 ≤ x ∧ x < 9) : rdA (mj μ I) (b + 5) 0 (J x) r = r := rdA_k (t := 0) (n := 9) (h.2 (7, 5, 0, 9) (by decide)).2 (by omega)
theorem wr_S5 (h : ShS μ b) (hl : lo ≤ b) (hx : 0 ≤ x ∧ x < 9) : wrA lo (mj μ I) (b + 5) 0 (J x) r = r := wrA_k (t := 0) (n := 9) (h.2 (7, 5, 0, 9) (by decide)).2 (by omega) (by omega)
theorem gR_S8 (h : ShS μ b) (g : Nat → Option α) : gR (rr (mj μ I) b 8) g r = g (b + 6) := gR_k (h.2 (8, 6, 0, 9) (by decide)).1 g
theorem al_S6 (h : ShS μ b) (g : Nat → Option α) : alen (mj μ I) (b + 6) g = g 9 := alen_k (h.2 (8, 6, 0, 9) (by decide)).2 g
theorem rd_S6 (h : ShS μ b) (hx : 0 ≤ x ∧ x < 9) : rdA (mj μ I) (b + 6) 0 (J x) r = r := rdA_k (t := 0) (n := 9) (h.2 (8, 6, 0, 9) (by decide)).2 (by omega)
theorem wr_S6 (h : ShS μ b) (hl : lo ≤ b) (hx : 0 ≤ x ∧ x < 9) : wrA lo (mj μ I) (b + 6) 0 (J x) r = r := wrA_k (t := 0) (n := 9) (h.2 (8, 6, 0, 9) (by decide)).2 (by omega) (by omega)
theorem gR_S9 (h : ShS μ b) (g : Nat → Option α) : gR (rr (mj μ I) b 9) g r = g (b + 7) := gR_k (h.2 (9, 7, 0, 9) (by decide)).1 g
theorem al_S7 (h : ShS μ b) (g : Nat → Option α) : alen (mj μ I) (b + 7) g = g 9 := alen_k (h.2 (9, 7, 0, 9) (by decide)).2 g
theorem rd_S7 (h : ShS μ b) (hx : 0 ≤ x ∧ x < 9) : rdA (mj μ I) (b + 7) 0 (J x) r = r := rdA_k (t := 0) (n := 9) (h.2 (9, 7, 0, 9) (by decide)).2 (by omega)
theorem wr_S7 (h : ShS μ b) (hl : lo ≤ b) (hx : 0 ≤ x ∧ x < 9) : wrA lo (mj μ I) (b + 7) 0 (J x) r = r := wrA_k (t := 0) (n := 9) (h.2 (9, 7, 0, 9) (by decide)).2 (by omega) (by omega)
theorem gR_S10 (h : ShS μ b) (g : Nat → Option α) : gR (rr (mj μ I) b 10) g r = g (b + 8) := gR_k (h.2 (10, 8, 0, 9) (by decide)).1 g
theorem al_S8 (h : ShS μ b) (g : Nat → Option α) : alen (mj μ I) (b + 8) g = g 9 := alen_k (h.2 (10, 8, 0, 9) (by decide)).2 g
theorem rd_S8 (h : ShS μ b) (hx : 0 ≤ x ∧ x < 9) : rdA (mj μ I) (b + 8) 0 (J x) r = r := rdA_k (t := 0) (n := 9) (h.2 (10, 8, 0, 9) (by decide)).2 (by omega)
theorem wr_S8 (h : ShS μ b) (hl : lo ≤ b) (hx : 0 ≤ x ∧ x < 9) : wrA lo (mj μ I) (b + 8) 0 (J x) r = r := wrA_k (t := 0) (n := 9) (h.2 (10, 8, 0, 9) (by decide)).2 (by omega) (by omega)
theorem gR_S11 (h : ShS μ b) (g : Nat → Option α) : gR (rr (mj μ I) b 11) g r = g (b + 9) := gR_k (h.2 (11, 9, 0, 9) (by decide)).1 g
theorem al_S9 (h : ShS μ b) (g : Nat → Option α) : alen (mj μ I) (b + 9) g = g 9 := alen_k (h.2 (11, 9, 0, 9) (by decide)).2 g
theorem rd_S9 (h : ShS μ b) (hx : 0 ≤ x ∧ x < 9) : rdA (mj μ I) (b + 9) 0 (J x) r = r := rdA_k (t := 0) (n := 9) (h.2 (11, 9, 0, 9) (by decide)).2 (by omega)
theorem wr_S9 (h : ShS μ b) (hl : lo ≤ b) (hx : 0 ≤ x ∧ x < 9) : wrA lo (mj μ I) (b + 9) 0 (J x) r = r := wrA_k (t := 0) (n := 9) (h.2 (11, 9, 0, 9) (by decide)).2 (by omega) (by omega)
theorem gR_S12 (h : ShS μ b) (g : Nat → Option α) : gR (rr (mj μ I) b 12) g r = g (b + 10) := gR_k (h.2 (12, 10, 0, 9) (by decide)).1 g
theorem al_S10 (h : ShS μ b) (g : Nat → Option α) : alen (mj μ I) (b + 10) g = g 9 := alen_k (h.2 (12, 10, 0, 9) (by decide)).2 g
theorem rd_S10 (h : ShS μ b) (hx : 0 ≤ x ∧ x < 9) : rdA (mj μ I) (b + 10) 0 (J x) r = r := rdA_k (t := 0) (n := 9) (h.2 (12, 10, 0, 9) (by decide)).2 (by omega)
theorem wr_S10 (h : ShS μ b) (hl : lo ≤ b) (hx : 0 ≤ x ∧ x < 9) : wrA lo (mj μ I) (b + 10) 0 (J x) r = r := wrA_k (t := 0) (n := 9) (h.2 (12, 10, 0, 9) (by decide)).2 (by omega) (by omega)
theorem gR_S14 (h : ShS μ b) (g : Nat → Option α) : gR (rr (mj μ I) b 14) g r = g (b + 11) := gR_k (h.2 (14, 11, 0, 9) (by decide)).1 g
theorem al_S11 (h : ShS μ b) (g : Nat → Option α) : alen (mj μ I) (b + 11) g = g 9 := alen_k (h.2 (14, 11, 0, 9) (by decide)).2 g
theorem rd_S11 (h : ShS μ b) (hx : 0 ≤ x ∧ x < 9) : rdA (mj μ I) (b + 11) 0 (J x) r = r := rdA_k (t := 0) (n := 9) (h.2 (14, 11, 0, 9) (by decide)).2 (by omega)
theorem wr_S11 (h : ShS μ b) (hl : lo ≤ b) (hx : 0 ≤ x ∧ x < 9) : wrA lo (mj μ I) (b + 11) 0 (J x) r = r := wrA_k (t := 0) (n := 9) (h.2 (14, 11, 0, 9) (by decide)).2 (by omega) (by omega)
theorem gR_S15 (h : ShS μ b) (g : Nat → Option α) : gR (rr (mj μ I) b 15) g r = g (b + 12) := gR_k (h.2 (15, 12, 0, 9) (by decide)).1 g
theorem al_S12 (h : ShS μ b) (g : Nat → Option α) : alen (mj μ I) (b + 12) g = g 9 := alen_k (h.2 (15, 12, 0, 9) (by decide)).2 g
theorem rd_S12 (h : ShS μ b) (hx : 0 ≤ x ∧ x < 9) : rdA (mj μ I) (b + 12) 0 (J x) r = r := rdA_k (t := 0) (n := 9) (h.2 (15, 12, 0, 9) (by decide)).2 (by omega)
theorem wr_S12 (h : ShS μ b) (hl : lo ≤ b) (hx : 0 ≤ x ∧ x < 9) : wrA lo (mj μ I) (b + 12) 0 (J x) r = r := wrA_k (t := 0) (n := 9) (h.2 (15, 12, 0, 9) (by decide)).2 (by omega) (by omega)
def lsT : List (Nat × Nat × Nat × Nat) := [(3, 1, 0, 36), (4, 2, 0, 36), (5, 3, 0, 36), (6, 4, 0, 36)]
/-- an object of class 9 at b -/
def ShT (μ : rM) (b : Nat) : Prop := rk μ b = some (.inl 9) ∧ ∀ q ∈ lsT, rr μ b q.1 = some (b + q.2.1) ∧ rk μ (b + q.2.1) = some (.inr (q.2.2.1, q.2.2.2))
theorem gO_T (h : ShT μ b) : gO (mj μ I) b 9 r = r := gO_k h.1
theorem gP_T (h : ShT μ b) (hl : lo ≤ b) : gP lo (mj μ I) b 9 r = r := gP_k h.1 hl
theorem gR_T3 (h : ShT μ b) (g : Nat → Option α) : gR (rr (mj μ I) b 3) g r = g (b + 1) := gR_k (h.2 (3, 1, 0, 36) (by decide)).1 g
theorem al_T1 (h : ShT μ b) (g : Nat → Option α) : alen (mj μ I) (b + 1) g = g 36 := alen_k (h.2 (3, 1, 0, 36) (by decide)).2 g
theorem rd_T1 (h : ShT μ b) (hx : 0 ≤ x ∧ x < 36) : rdA (mj μ I) (b + 1) 0 (J x) r = r := rdA_k (t := 0) (n := 36) (h.2 (3, 1, 0, 36) (by decide)).2 (by omega)
theorem wr_T1 (h : ShT μ b) (hl : lo ≤ b) (hx : 0 ≤ x ∧ x < 36) : wrA lo (mj μ I) (b + 1) 0 (J x) r = r := wrA_k (t := 0) (n := 36) (h.2 (3, 1, 0, 36) (by decide)).2 (by omega) (by omega)
theorem gR_T4 (h : ShT μ b) (g : Nat → Option α) : gR (rr (mj μ I) b 4) g r = g (b + 2) := gR_k (h.2 (4, 2, 0, 36) (by decide)).1 g
theorem al_T2 (h : ShT μ b) (g : Nat → Option α) : alen (mj μ I) (b + 2) g = g 36 := alen_k (h.2 (4, 2, 0, 36) (by decide)).2 g
theorem rd_T2 (h : ShT μ b) (hx : 0 ≤ x ∧ x < 36) : rdA (mj μ I) (b + 2) 0 (J x) r = r := rdA_k (t := 0) (n := 36) (h.2 (4, 2, 0, 36) (by decide)).2 (by omega)
theorem wr_T2 (h : ShT μ b) (hl : lo ≤ b) (hx : 0 ≤ x ∧ x < 36) : wrA lo (mj μ I) (b + 2) 0 (J x) r = r := wrA_k (t := 0) (n := 36) (h.2 (4, 2, 0, 36) (by decide)).2 (by omega) (by omega)
theorem gR_T5 (h : ShT μ b) (g : Nat → Option α) : gR (rr (mj μ I) b 5) g r = g (b + 3) := gR_k (h.2 (5, 3, 0, 36) (by decide)).1 g
theorem al_T3 (h : ShT μ b) (g : Nat → Option α) : alen (mj μ I) (b + 3) g = g 36 := alen_k (h.2 (5, 3, 0, 36) (by decide)).2 g
theorem rd_T3 (h : ShT μ b) (hx : 0 ≤ x ∧ x < 36) : rdA (mj μ I) (b + 3) 0 (J x) r = r := rdA_k (t := 0) (n := 36) (h.2 (5, 3, 0, 36) (by decide)).2 (by omega)
theorem wr_T3 (h : ShT μ b) (hl : lo ≤ b) (hx : 0 ≤ x ∧ x < 36) : wrA lo (mj μ I) (b + 3) 0 (J x) r = r := wrA_k (t := 0) (n := 36) (h.2 (5, 3, 0, 36) (by decide)).2 (by omega) (by omega)
theorem gR_T6 (h : ShT μ b) (g : Nat → Option α) : gR (rr (mj μ I) b 6) g r = g (b + 4) := gR_k (h.2 (6, 4, 0, 36) (by decide)).1 g
theorem al_T4 (h : ShT μ b) (g : Nat → Option α) : alen (mj μ I) (b + 4) g = g 36 := alen_k (h.2 (6, 4, 0, 36) (by decide)).2 g
theorem rd_T4 (h : ShT μ b) (hx : 0 ≤ x ∧ x < 36) : rdA (mj μ I) (b + 4) 0 (J x) r = r := rdA_k (t := 0) (n := 36) (h.2 (6, 4, 0, 36) (by decide)).2 (by omega)
theorem wr_T4 (h : ShT μ b) (hl : lo ≤ b) (hx : 0 ≤ x ∧ x < 36) : wrA lo (mj μ I) (b + 4) 0 (J x) r = r := wrA_k (t := 0) (n := 36) (h.2 (6, 4, 0, 36) (by decide)).2 (by omega) (by omega)
def lsN : List (Nat × Nat × Nat × Nat) := [(3, 14, 0, 324), (4, 15, 0, 9), (5, 16, 0, 9), (6, 17, 0, 4)]
/-- an object of class 2 at b -/
def ShN (μ : rM) (b : Nat) : Prop := rk μ b = some (.inl 2) ∧ ∀ q ∈ lsN, rr μ b q.1 = some (b + q.2.1) ∧ rk μ (b + q.2.1) = some (.inr (q.2.2.1, q.2.2.2))
theorem gO_N (h : ShN μ b) : gO (mj μ I) b 2 r = r := gO_k h.1
theorem gP_N (h : ShN μ b) (hl : lo ≤ b) : gP lo (mj μ I) b 2 r = r := gP_k h.1 hl
theorem gR_N3 (h : ShN μ b) (g : Nat → Option α) : gR (rr (mj μ I) b 3) g r = g (b + 14) := gR_k (h.2 (3, 14, 0, 324) (by decide)).1 g
theorem al_N14 (h : ShN μ b) (g : Nat → Option α) : alen (mj μ I) (b + 14) g = g 324 := alen_k (h.2 (3, 14, 0, 324) (by decide)).2 g
theorem rd_N14 (h : ShN μ b) (hx : 0 ≤ x ∧ x < 324) : rdA (mj μ I) (b + 14) 0 (J x) r = r := rdA_k (t := 0) (n := 324) (h.2 (3, 14, 0, 324) (by decide)).2 (by omega)
theorem wr_N14 (h : ShN μ b) (hl : lo ≤ b) (hx : 0 ≤ x ∧ x < 324) : wrA lo (mj μ I) (b + 14) 0 (J x) r = r := wrA_k (t := 0) (n := 324) (h.2 (3, 14, 0, 324) (by decide)).2 (by omega) (by omega)
theorem gR_N4 (h : ShN μ b) (g : Nat → Option α) : gR (rr (mj μ I) b 4) g r = g (b + 15) := gR_k (h.2 (4, 15, 0, 9) (by decide)).1 g
theorem al_N15 (h : ShN μ b) (g : Nat → Option α) : alen (mj μ I) (b + 15) g = g 9 := alen_k (h.2 (4, 15, 0, 9) (by decide)).2 g
theorem rd_N15 (h : ShN μ b) (hx : 0 ≤ x ∧ x < 9) : rdA (mj μ I) (b + 15) 0 (J x) r = r := rdA_k (t := 0) (n := 9) (h.2 (4, 15, 0, 9) (by decide)).2 (by omega)
theorem wr_N15 (h : ShN μ b) (hl : lo ≤ b) (hx : 0 ≤ x ∧ x < 9) : wrA lo (mj μ I) (b + 15) 0 (J x) r = r := wrA_k (t := 0) (n := 9) (h.2 (4, 15, 0, 9) (by decide)).2 (by omega) (by omega)
theorem gR_N5 (h : ShN μ b) (g : Nat → Option α) : gR (rr (mj μ I) b 5) g r = g (b + 16) := gR_k (h.2 (5, 16, 0, 9) (by decide)).1 g
theorem al_N16 (h : ShN μ b) (g : Nat → Option α) : alen (mj μ I) (b + 16) g = g 9 := alen_k (h.2 (5, 16, 0, 9) (by decide)).2 g
theorem rd_N16 (h : ShN μ b) (hx : 0 ≤ x ∧ x < 9) : rdA (mj μ I) (b + 16) 0 (J x) r = r := rdA_k (t := 0) (n := 9) (h.2 (5, 16, 0, 9) (by decide)).2 (by omega)
theorem wr_N16 (h : ShN μ b) (hl : lo ≤ b) (hx : 0 ≤ x ∧ x < 9) : wrA lo (mj μ I) (b + 16) 0 (J x) r = r := wrA_k (t := 0) (n := 9) (h.2 (5, 16, 0, 9) (by decide)).2 (by omega) (by omega)
theorem gR_N6 (h : ShN μ b) (g : Nat → Option α) : gR (rr (mj μ I) b 6) g r = g (b + 17) := gR_k (h.2 (6, 17, 0, 4) (by decide)).1 g
theorem al_N17 (h : ShN μ b) (g : Nat → Option α) : alen (mj μ I) (b + 17) g = g 4 := alen_k (h.2 (6, 17, 0, 4) (by decide)).2 g
theorem rd_N17 (h : ShN μ b) (hx : 0 ≤ x ∧ x < 4) : rdA (mj μ I) (b + 17) 0 (J x) r = r := rdA_k (t := 0) (n := 4) (h.2 (6, 17, 0, 4) (by decide)).2 (by omega)
theorem wr_N17 (h : ShN μ b) (hl : lo ≤ b) (hx : 0 ≤ x ∧ x < 4) : wrA lo (mj μ I) (b + 17) 0 (J x) r = r := wrA_k (t := 0) (n := 4) (h.2 (6, 17, 0, 4) (by decide)).2 (by omega) (by omega)
def lsP : List (Nat × Nat × Nat × Nat) := [(4, 14, 0, 9), (6, 15, 0, 9), (7, 16, 0, 9), (8, 17, 0, 1800), (9, 18, 0, 5), (10, 19, 0, 36)]
/-- an object of class 3 at b -/
def ShP (μ : rM) (b : Nat) : Prop := rk μ b = some (.inl 3) ∧ ∀ q ∈ lsP, rr μ b q.1 = some (b + q.2.1) ∧ rk μ (b + q.2.1) = some (.inr (q.2.2.1, q.2.2.2))
theorem gO_P (h : ShP μ b) : gO (mj μ I) b 3 r = r := gO_k h.1
theorem gP_P (h : ShP μ b) (hl : lo ≤ b) : gP lo (mj μ I) b 3 r = r := gP_k h.1 hl
theorem gR_P4 (h : ShP μ b) (g : Nat → Option α) : gR (rr (mj μ I) b 4) g r = g (b + 14) := gR_k (h.2 (4, 14, 0, 9) (by decide)).1 g
theorem al_P14 (h : ShP μ b) (g : Nat → Option α) : alen (mj μ I) (b + 14) g = g 9 := alen_k (h.2 (4, 14, 0, 9) (by decide)).2 g
theorem rd_P14 (h : ShP μ b) (hx : 0 ≤ x ∧ x < 9) : rdA (mj μ I) (b + 14) 0 (J x) r = r := rdA_k (t := 0) (n := 9) (h.2 (4, 14, 0, 9) (by decide)).2 (by omega)
theorem wr_P14 (h : ShP μ b) (hl : lo ≤ b) (hx : 0 ≤ x ∧ x < 9) : wrA lo (mj μ I) (b + 14) 0 (J x) r = r := wrA_k (t := 0) (n := 9) (h.2 (4, 14, 0, 9) (by decide)).2 (by omega) (by omega)
theorem gR_P6 (h : ShP μ b) (g : Nat → Option α) : gR (rr (mj μ I) b 6) g r = g (b + 15) := gR_k (h.2 (6, 15, 0, 9) (by decide)).1 g
theorem al_P15 (h : ShP μ b) (g : Nat → Option α) : alen (mj μ I) (b + 15) g = g 9 := alen_k (h.2 (6, 15, 0, 9) (by decide)).2 g
theorem rd_P15 (h : ShP μ b) (hx : 0 ≤ x ∧ x < 9) : rdA (mj μ I) (b + 15) 0 (J x) r = r := rdA_k (t := 0) (n := 9) (h.2 (6, 15, 0, 9) (by decide)).2 (by omega)
theorem wr_P15 (h : ShP μ b) (hl : lo ≤ b) (hx : 0 ≤ x ∧ x < 9) : wrA lo (mj μ I) (b + 15) 0 (J x) r = r := wrA_k (t := 0) (n := 9) (h.2 (6, 15, 0, 9) (by decide)).2 (by omega) (by omega)
theorem gR_P7 (h : ShP μ b) (g : Nat → Option α) : gR (rr (mj μ I) b 7) g r = g (b + 16) := gR_k (h.2 (7, 16, 0, 9) (by decide)).1 g
theorem al_P16 (h : ShP μ b) (g : Nat → Option α) : alen (mj μ I) (b + 16) g = g 9 := alen_k (h.2 (7, 16, 0, 9) (by decide)).2 g
theorem rd_P16 (h : ShP μ b) (hx : 0 ≤ x ∧ x < 9) : rdA (mj μ I) (b + 16) 0 (J x) r = r := rdA_k (t := 0) (n := 9) (h.2 (7, 16, 0, 9) (by decide)).2 (by omega)
theorem wr_P16 (h : ShP μ b) (hl : lo ≤ b) (hx : 0 ≤ x ∧ x < 9) : wrA lo (mj μ I) (b + 16) 0 (J x) r = r := wrA_k (t := 0) (n := 9) (h.2 (7, 16, 0, 9) (by decide)).2 (by omega) (by omega)
theorem gR_P8 (h : ShP μ b) (g : Nat → Option α) : gR (rr (mj μ I) b 8) g r = g (b + 17) := gR_k (h.2 (8, 17, 0, 1800) (by decide)).1 g
theorem al_P17 (h : ShP μ b) (g : Nat → Option α) : alen (mj μ I) (b + 17) g = g 1800 := alen_k (h.2 (8, 17, 0, 1800) (by decide)).2 g
theorem rd_P17 (h : ShP μ b) (hx : 0 ≤ x ∧ x < 1800) : rdA (mj μ I) (b + 17) 0 (J x) r = r := rdA_k (t := 0) (n := 1800) (h.2 (8, 17, 0, 1800) (by decide)).2 (by omega)
theorem wr_P17 (h : ShP μ b) (hl : lo ≤ b) (hx : 0 ≤ x ∧ x < 1800) : wrA lo (mj μ I) (b + 17) 0 (J x) r = r := wrA_k (t := 0) (n := 1800) (h.2 (8, 17, 0, 1800) (by decide)).2 (by omega) (by omega)
theorem gR_P9 (h : ShP μ b) (g : Nat → Option α) : gR (rr (mj μ I) b 9) g r = g (b + 18) := gR_k (h.2 (9, 18, 0, 5) (by decide)).1 g
theorem al_P18 (h : ShP μ b) (g : Nat → Option α) : alen (mj μ I) (b + 18) g = g 5 := alen_k (h.2 (9, 18, 0, 5) (by decide)).2 g
theorem rd_P18 (h : ShP μ b) (hx : 0 ≤ x ∧ x < 5) : rdA (mj μ I) (b + 18) 0 (J x) r = r := rdA_k (t := 0) (n := 5) (h.2 (9, 18, 0, 5) (by decide)).2 (by omega)
theorem wr_P18 (h : ShP μ b) (hl : lo ≤ b) (hx : 0 ≤ x ∧ x < 5) : wrA lo (mj μ I) (b + 18) 0 (J x) r = r := wrA_k (t := 0) (n := 5) (h.2 (9, 18, 0, 5) (by decide)).2 (by omega) (by omega)
theorem gR_P10 (h : ShP μ b) (g : Nat → Option α) : gR (rr (mj μ I) b 10) g r = g (b + 19) := gR_k (h.2 (10, 19, 0, 36) (by decide)).1 g
theorem al_P19 (h : ShP μ b) (g : Nat → Option α) : alen (mj μ I) (b + 19) g = g 36 := alen_k (h.2 (10, 19, 0, 36) (by decide)).2 g
theorem rd_P19 (h : ShP μ b) (hx : 0 ≤ x ∧ x < 36) : rdA (mj μ I) (b + 19) 0 (J x) r = r := rdA_k (t := 0) (n := 36) (h.2 (10, 19, 0, 36) (by decide)).2 (by omega)
theorem wr_P19 (h : ShP μ b) (hl : lo ≤ b) (hx : 0 ≤ x ∧ x < 36) : wrA lo (mj μ I) (b + 19) 0 (J x) r = r := wrA_k (t := 0) (n := 36) (h.2 (10, 19, 0, 36) (by decide)).2 (by omega) (by omega)
def lsW : List (Nat × Nat × Nat × Nat) := [(2, 1, 0, 8), (4, 15, 0, 8), (5, 16, 0, 288), (6, 17, 0, 8), (7, 18, 0, 288), (10, 21, 3, 288), (11, 22, 0, 64), (12, 23, 0, 2048)]
/-- an object of class 10 at b -/
def ShW (μ : rM) (b : Nat) : Prop := rk μ b = some (.inl 10) ∧ ∀ q ∈ lsW, rr μ b q.1 = some (b + q.2.1) ∧ rk μ (b + q.2.1) = some (.inr (q.2.2.1, q.2.2.2))
theorem gO_W (h : ShW μ b) : gO (mj μ I) b 10 r = r := gO_k h.1
theorem gP_W (h : ShW μ b) (hl : lo ≤ b) : gP lo (mj μ I) b 10 r = r := gP_k h.1 hl
theorem gR_W2 (h : ShW μ b) (g : Nat → Option α) : gR (rr (mj μ I) b 2) g r = g (b + 1) := gR_k (h.2 (2, 1, 0, 8) (by decide)).1 g
theorem al_W1 (h : ShW μ b) (g : Nat → Option α) : alen (mj μ I) (b + 1) g = g 8 := alen_k (h.2 (2, 1, 0, 8) (by decide)).2 g
theorem rd_W1 (h : ShW μ b) (hx : 0 ≤ x ∧ x < 8) : rdA (mj μ I) (b + 1) 0 (J x) r = r := rdA_k (t := 0) (n := 8) (h.2 (2, 1, 0, 8) (by decide)).2 (by omega)
theorem wr_W1 (h : ShW μ b) (hl : lo ≤ b) (hx : 0 ≤ x ∧ x < 8) : wrA lo (mj μ I) (b + 1) 0 (J x) r = r := wrA_k (t := 0) (n := 8) (h.2 (2, 1, 0, 8) (by decide)).2 (by omega) (by omega)
theorem gR_W4 (h : ShW μ b) (g : Nat → Option α) : gR (rr (mj μ I) b 4) g r = g (b + 15) := gR_k (h.2 (4, 15, 0, 8) (by decide)).1 g
theorem al_W15 (h : ShW μ b) (g : Nat → Option α) : alen (mj μ I) (b + 15) g = g 8 := alen_k (h.2 (4, 15, 0, 8) (by decide)).2 g
theorem rd_W15 (h : ShW μ b) (hx : 0 ≤ x ∧ x < 8) : rdA (mj μ I) (b + 15) 0 (J x) r = r := rdA_k (t := 0) (n := 8) (h.2 (4, 15, 0, 8) (by decide)).2 (by omega)
theorem wr_W15 (h : ShW μ b) (hl : lo ≤ b) (hx : 0 ≤ x ∧ x < 8) : wrA lo (mj μ I) (b + 15) 0 (J x) r = r := wrA_k (t := 0) (n := 8) (h.2 (4, 15, 0, 8) (by decide)).2 (by omega) (by omega)
theorem gR_W5 (h : ShW μ b) (g : Nat → Option α) : gR (rr (mj μ I) b 5) g r = g (b + 16) := gR_k (h.2 (5, 16, 0, 288) (by decide)).1 g
theorem al_W16 (h : ShW μ b) (g : Nat → Option α) : alen (mj μ I) (b + 16) g = g 288 := alen_k (h.2 (5, 16, 0, 288) (by decide)).2 g
theorem rd_W16 (h : ShW μ b) (hx : 0 ≤ x ∧ x < 288) : rdA (mj μ I) (b + 16) 0 (J x) r = r := rdA_k (t := 0) (n := 288) (h.2 (5, 16, 0, 288) (by decide)).2 (by omega)
theorem wr_W16 (h : ShW μ b) (hl : lo ≤ b) (hx : 0 ≤ x ∧ x < 288) : wrA lo (mj μ I) (b + 16) 0 (J x) r = r := wrA_k (t := 0) (n := 288) (h.2 (5, 16, 0, 288) (by decide)).2 (by omega) (by omega)
theorem gR_W6 (h : ShW μ b) (g : Nat → Option α) : gR (rr (mj μ I) b 6) g r = g (b + 17) := gR_k (h.2 (6, 17, 0, 8) (by decide)).1 g
theorem al_W17 (h : ShW μ b) (g : Nat → Option α) : alen (mj μ I) (b + 17) g = g 8 := alen_k (h.2 (6, 17, 0, 8) (by decide)).2 g
theorem rd_W17 (h : ShW μ b) (hx : 0 ≤ x ∧ x < 8) : rdA (mj μ I) (b + 17) 0 (J x) r = r := rdA_k (t := 0) (n := 8) (h.2 (6, 17, 0, 8) (by decide)).2 (by omega)
theorem wr_W17 (h : ShW μ b) (hl : lo ≤ b) (hx : 0 ≤ x ∧ x < 8) : wrA lo (mj μ I) (b + 17) 0 (J x) r = r := wrA_k (t := 0) (n := 8) (h.2 (6, 17, 0, 8) (by decide)).2 (by omega) (by omega)
theorem gR_W7 (h : ShW μ b) (g : Nat → Option α) : gR (rr (mj μ I) b 7) g r = g (b + 18) := gR_k (h.2 (7, 18, 0, 288) (by decide)).1 g
theorem al_W18 (h : ShW μ b) (g : Nat → Option α) : alen (mj μ I) (b + 18) g = g 288 := alen_k (h.2 (7, 18, 0, 288) (by decide)).2 g
theorem rd_W18 (h : ShW μ b) (hx : 0 ≤ x ∧ x < 288) : rdA (mj μ I) (b + 18) 0 (J x) r = r := rdA_k (t := 0) (n := 288) (h.2 (7, 18, 0, 288) (by decide)).2 (by omega)
theorem wr_W18 (h : ShW μ b) (hl : lo ≤ b) (hx : 0 ≤ x ∧ x < 288) : wrA lo (mj μ I) (b + 18) 0 (J x) r = r := wrA_k (t := 0) (n := 288) (h.2 (7, 18, 0, 288) (by decide)).2 (by omega) (by omega)
theorem gR_W10 (h : ShW μ b) (g : Nat → Option α) : gR (rr (mj μ I) b 10) g r = g (b + 21) := gR_k (h.2 (10, 21, 3, 288) (by decide)).1 g
theorem al_W21 (h : ShW μ b) (g : Nat → Option α) : alen (mj μ I) (b + 21) g = g 288 := alen_k (h.2 (10, 21, 3, 288) (by decide)).2 g
theorem rd_W21 (h : ShW μ b) (hx : 0 ≤ x ∧ x < 288) : rdA (mj μ I) (b + 21) 3 (J x) r = r := rdA_k (t := 3) (n := 288) (h.2 (10, 21, 3, 288) (by decide)).2 (by omega)
theorem wr_W21 (h : ShW μ b) (hl : lo ≤ b) (hx : 0 ≤ x ∧ x < 288) : wrA lo (mj μ I) (b + 21) 3 (J x) r = r := wrA_k (t := 3) (n := 288) (h.2 (10, 21, 3, 288) (by decide)).2 (by omega) (by omega)
theorem gR_W11 (h : ShW μ b) (g : Nat → Option α) : gR (rr (mj μ I) b 11) g r = g (b + 22) := gR_k (h.2 (11, 22, 0, 64) (by decide)).1 g
theorem al_W22 (h : ShW μ b) (g : Nat → Option α) : alen (mj μ I) (b + 22) g = g 64 := alen_k (h.2 (11, 22, 0, 64) (by decide)).2 g
theorem rd_W22 (h : ShW μ b) (hx : 0 ≤ x ∧ x < 64) : rdA (mj μ I) (b + 22) 0 (J x) r = r := rdA_k (t := 0) (n := 64) (h.2 (11, 22, 0, 64) (by decide)).2 (by omega)
theorem wr_W22 (h : ShW μ b) (hl : lo ≤ b) (hx : 0 ≤ x ∧ x < 64) : wrA lo (mj μ I) (b + 22) 0 (J x) r = r := wrA_k (t := 0) (n := 64) (h.2 (11, 22, 0, 64) (by decide)).2 (by omega) (by omega)
theorem gR_W12 (h : ShW μ b) (g : Nat → Option α) : gR (rr (mj μ I) b 12) g r = g (b + 23) := gR_k (h.2 (12, 23, 0, 2048) (by decide)).1 g
theorem al_W23 (h : ShW μ b) (g : Nat → Option α) : alen (mj μ I) (b + 23) g = g 2048 := alen_k (h.2 (12, 23, 0, 2048) (by decide)).2 g
theorem rd_W23 (h : ShW μ b) (hx : 0 ≤ x ∧ x < 2048) : rdA (mj μ I) (b + 23) 0 (J x) r = r := rdA_k (t := 0) (n := 2048) (h.2 (12, 23, 0, 2048) (by decide)).2 (by omega)
theorem wr_W23 (h : ShW μ b) (hl : lo ≤ b) (hx : 0 ≤ x ∧ x < 2048) : wrA lo (mj μ I) (b + 23) 0 (J x) r = r := wrA_k (t := 0) (n := 2048) (h.2 (12, 23, 0, 2048) (by decide)).2 (by omega) (by omega)
def lsD : List (Nat × Nat × Nat × Nat) := [(0, 1, 1, 600), (4, 2, 0, 4), (5, 3, 11, 2), (6, 4, 5, 2), (7, 5, 9, 2), (8, 6, 4, 2)]
/-- an object of class 8 at b -/
def ShD (μ : rM) (b : Nat) : Prop := rk μ b = some (.inl 8) ∧ ∀ q ∈ lsD, rr μ b q.1 = some (b + q.2.1) ∧ rk μ (b + q.2.1) = some (.inr (q.2.2.1, q.2.2.2))
theorem gO_D (h : ShD μ b) : gO (mj μ I) b 8 r = r := gO_k h.1
theorem gP_D (h : ShD μ b) (hl : lo ≤ b) : gP lo (mj μ I) b 8 r = r := gP_k h.1 hl
theorem gR_D0 (h : ShD μ b) (g : Nat → Option α) : gR (rr (mj μ I) b 0) g r = g (b + 1) := gR_k (h.2 (0, 1, 1, 600) (by decide)).1 g
theorem al_D1 (h : ShD μ b) (g : Nat → Option α) : alen (mj μ I) (b + 1) g = g 600 := alen_k (h.2 (0, 1, 1, 600) (by decide)).2 g
theorem rd_D1 (h : ShD μ b) (hx : 0 ≤ x ∧ x < 600) : rdB (mj μ I) (b + 1) (J x) r = r := rdB_k (t := 1) (n := 600) (h.2 (0, 1, 1, 600) (by decide)).2 (by decide) (by omega)
theorem wr_D1 (h : ShD μ b) (hl : lo ≤ b) (hx : 0 ≤ x ∧ x < 600) : wrB lo (mj μ I) (b + 1) (J x) r1 r2 = r1 := wrB1_k (n := 600) (h.2 (0, 1, 1, 600) (by decide)).2 (by omega) (by omega)
theorem gR_D4 (h : ShD μ b) (g : Nat → Option α) : gR (rr (mj μ I) b 4) g r = g (b + 2) := gR_k (h.2 (4, 2, 0, 4) (by decide)).1 g
theorem al_D2 (h : ShD μ b) (g : Nat → Option α) : alen (mj μ I) (b + 2) g = g 4 := alen_k (h.2 (4, 2, 0, 4) (by decide)).2 g
theorem rd_D2 (h : ShD μ b) (hx : 0 ≤ x ∧ x < 4) : rdA (mj μ I) (b + 2) 0 (J x) r = r := rdA_k (t := 0) (n := 4) (h.2 (4, 2, 0, 4) (by decide)).2 (by omega)
theorem wr_D2 (h : ShD μ b) (hl : lo ≤ b) (hx : 0 ≤ x ∧ x < 4) : wrA lo (mj μ I) (b + 2) 0 (J x) r = r := wrA_k (t := 0) (n := 4) (h.2 (4, 2, 0, 4) (by decide)).2 (by omega) (by omega)
theorem gR_D5 (h : ShD μ b) (g : Nat → Option α) : gR (rr (mj μ I) b 5) g r = g (b + 3) := gR_k (h.2 (5, 3, 11, 2) (by decide)).1 g
theorem al_D3 (h : ShD μ b) (g : Nat → Option α) : alen (mj μ I) (b + 3) g = g 2 := alen_k (h.2 (5, 3, 11, 2) (by decide)).2 g
theorem rd_D3 (h : ShD μ b) (hx : 0 ≤ x ∧ x < 2) : rdR (mj μ I) (b + 3) (J x) r = r := rdR_k (t := 11) (n := 2) (h.2 (5, 3, 11, 2) (by decide)).2 (by decide) (by omega)
theorem gR_D6 (h : ShD μ b) (g : Nat → Option α) : gR (rr (mj μ I) b 6) g r = g (b + 4) := gR_k (h.2 (6, 4, 5, 2) (by decide)).1 g
theorem al_D4 (h : ShD μ b) (g : Nat → Option α) : alen (mj μ I) (b + 4) g = g 2 := alen_k (h.2 (6, 4, 5, 2) (by decide)).2 g
theorem rd_D4 (h : ShD μ b) (hx : 0 ≤ x ∧ x < 2) : rdR (mj μ I) (b + 4) (J x) r = r := rdR_k (t := 5) (n := 2) (h.2 (6, 4, 5, 2) (by decide)).2 (by decide) (by omega)
theorem gR_D7 (h : ShD μ b) (g : Nat → Option α) : gR (rr (mj μ I) b 7) g r = g (b + 5) := gR_k (h.2 (7, 5, 9, 2) (by decide)).1 g
theorem al_D5 (h : ShD μ b) (g : Nat → Option α) : alen (mj μ I) (b + 5) g = g 2 := alen_k (h.2 (7, 5, 9, 2) (by decide)).2 g
theorem rd_D5 (h : ShD μ b) (hx : 0 ≤ x ∧ x < 2) : rdR (mj μ I) (b + 5) (J x) r = r := rdR_k (t := 9) (n := 2) (h.2 (7, 5, 9, 2) (by decide)).2 (by decide) (by omega)
theorem gR_D8 (h : ShD μ b) (g : Nat → Option α) : gR (rr (mj μ I) b 8) g r = g (b + 6) := gR_k (h.2 (8, 6, 4, 2) (by decide)).1 g
theorem al_D6 (h : ShD μ b) (g : Nat → Option α) : alen (mj μ I) (b + 6) g = g 2 := alen_k (h.2 (8, 6, 4, 2) (by decide)).2 g
theorem rd_D6 (h : ShD μ b) (hx : 0 ≤ x ∧ x < 2) : rdR (mj μ I) (b + 6) (J x) r = r := rdR_k (t := 4) (n := 2) (h.2 (8, 6, 4, 2) (by decide)).2 (by decide) (by omega)
/-- an object with what is in it -/
def AtS (μ : rM) (I : Nat → Int → Int) (b : Nat) (S : Nat → Int → Int) : Prop := ShS μ b ∧ ∀ f, f < 13 → I (b + f) = S f
theorem vS_0 {S : Nat → Int → Int} (h : AtS μ I b S) : I b = S 0 := h.2 0 (by decide)
theorem vS_1 {S : Nat → Int → Int} (h : AtS μ I b S) : I (b + 1) = S 1 := h.2 1 (by decide)
theorem vS_2 {S : Nat → Int → Int} (h : AtS μ I b S) : I (b + 2) = S 2 := h.2 2 (by decide)
theorem vS_3 {S : Nat → Int → Int} (h : AtS μ I b S) : I (b + 3) = S 3 := h.2 3 (by decide)
theorem vS_4 {S : Nat → Int → Int} (h : AtS μ I b S) : I (b + 4) = S 4 := h.2 4 (by decide)
theorem vS_5 {S : Nat → Int → Int} (h : AtS μ I b S) : I (b + 5) = S 5 := h.2 5 (by decide)
theorem vS_6 {S : Nat → Int → Int} (h : AtS μ I b S) : I (b + 6) = S 6 := h.2 6 (by decide)
theorem vS_7 {S : Nat → Int → Int} (h : AtS μ I b S) : I (b + 7) = S 7 := h.2 7 (by decide)
theorem vS_8 {S : Nat → Int → Int} (h : AtS μ I b S) : I (b + 8) = S 8 := h.2 8 (by decide)
theorem vS_9 {S : Nat → Int → Int} (h : AtS μ I b S) : I (b + 9) = S 9 := h.2 9 (by decide)
theorem vS_10 {S : Nat → Int → Int} (h : AtS μ I b S) : I (b + 10) = S 10 := h.2 10 (by decide)
theorem vS_11 {S : Nat → Int → Int} (h : AtS μ I b S) : I (b + 11) = S 11 := h.2 11 (by decide)
theorem vS_12 {S : Nat → Int → Int} (h : AtS μ I b S) : I (b + 12) = S 12 := h.2 12 (by decide)
theorem AtS.fr {S I' : Nat → Int → Int} (h : AtS μ I b S) (hf : ∀ a, b ≤ a → a < b + 13 → I' a = I a) : AtS μ I' b S := ⟨h.1, fun f q => by rw [hf (b + f) (by omega) (by omega), h.2 f q]⟩
/-- an object with what is in it -/
def AtL (μ : rM) (I : Nat → Int → Int) (b : Nat) (S : Nat → Int → Int) : Prop := ShL μ b ∧ ∀ f, f < 2 → I (b + f) = S f
theorem vL_0 {S : Nat → Int → Int} (h : AtL μ I b S) : I b = S 0 := h.2 0 (by decide)
theorem vL_1 {S : Nat → Int → Int} (h : AtL μ I b S) : I (b + 1) = S 1 := h.2 1 (by decide)
theorem AtL.fr {S I' : Nat → Int → Int} (h : AtL μ I b S) (hf : ∀ a, b ≤ a → a < b + 2 → I' a = I a) : AtL μ I' b S := ⟨h.1, fun f q => by rw [hf (b + f) (by omega) (by omega), h.2 f q]⟩
/-- an object with what is in it -/
def AtR (μ : rM) (I : Nat → Int → Int) (b : Nat) (S : Nat → Int → Int) : Prop := ShR μ b ∧ ∀ f, f < 3 → I (b + f) = S f
theorem vR_0 {S : Nat → Int → Int} (h : AtR μ I b S) : I b = S 0 := h.2 0 (by decide)
theorem vR_1 {S : Nat → Int → Int} (h : AtR μ I b S) : I (b + 1) = S 1 := h.2 1 (by decide)
theorem vR_2 {S : Nat → Int → Int} (h : AtR μ I b S) : I (b + 2) = S 2 := h.2 2 (by decide)
theorem AtR.fr {S I' : Nat → Int → Int} (h : AtR μ I b S) (hf : ∀ a, b ≤ a → a < b + 3 → I' a = I a) : AtR μ I' b S := ⟨h.1, fun f q => by rw [hf (b + f) (by omega) (by omega), h.2 f q]⟩
/-- an object with what is in it -/
def AtC (μ : rM) (I : Nat → Int → Int) (b : Nat) (S : Nat → Int → Int) : Prop := ShC μ b ∧ ∀ f, f < 2 → I (b + f) = S f
theorem vC_0 {S : Nat → Int → Int} (h : AtC μ I b S) : I b = S 0 := h.2 0 (by decide)
theorem vC_1 {S : Nat → Int → Int} (h : AtC μ I b S) : I (b + 1) = S 1 := h.2 1 (by decide)
theorem AtC.fr {S I' : Nat → Int → Int} (h : AtC μ I b S) (hf : ∀ a, b ≤ a → a < b + 2 → I' a = I a) : AtC μ I' b S := ⟨h.1, fun f q => by rw [hf (b + f) (by omega) (by omega), h.2 f q]⟩
/-- an object with what is in it -/
def AtT (μ : rM) (I : Nat → Int → Int) (b : Nat) (S : Nat → Int → Int) : Prop := ShT μ b ∧ ∀ f, f < 5 → I (b + f) = S f
theorem vT_0 {S : Nat → Int → Int} (h : AtT μ I b S) : I b = S 0 := h.2 0 (by decide)
theorem vT_1 {S : Nat → Int → Int} (h : AtT μ I b S) : I (b + 1) = S 1 := h.2 1 (by decide)
theorem vT_2 {S : Nat → Int → Int} (h : AtT μ I b S) : I (b + 2) = S 2 := h.2 2 (by decide)
theorem vT_3 {S : Nat → Int → Int} (h : AtT μ I b S) : I (b + 3) = S 3 := h.2 3 (by decide)
theorem vT_4 {S : Nat → Int → Int} (h : AtT μ I b S) : I (b + 4) = S 4 := h.2 4 (by decide)
theorem AtT.fr {S I' : Nat → Int → Int} (h : AtT μ I b S) (hf : ∀ a, b ≤ a → a < b + 5 → I' a = I a) : AtT μ I' b S := ⟨h.1, fun f q => by rw [hf (b + f) (by omega) (by omega), h.2 f q]⟩
end SHAPES
