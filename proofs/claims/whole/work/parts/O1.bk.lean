/-! NEW OBJECTS: a memory with a run of new cells behind it -/
def Z0 : Int → Int := fun _ => 0
def lk3 : List (Nat × Nat × Nat) → Nat → Nat → Option Nat
  | [], _, _ => none
  | q :: t, a, f => if a = q.1 ∧ f = q.2.1 then some q.2.2 else lk3 t a f
/-- n new cells at z, of kinds L (the last one first), with links R (from, field, to) -/
def bkl (μ : rM) (z n : Nat) (L : List rKd) (R : List (Nat × Nat × Nat)) (U : Nat) : rM := (fun a => if z ≤ a ∧ a < z + n then L[n - 1 - (a - z)]? else rk μ a, μ.2.1, fun a f => if z ≤ a ∧ a < z + n then (lk3 R (a - z) f).map (fun b => z + b) else rr μ a f, fun a j => if z ≤ a ∧ a < z + n then 0 else rl μ a j, z + n, ru μ + U)
def shR (n : Nat) (R : List (Nat × Nat × Nat)) : List (Nat × Nat × Nat) := R.map fun q => (q.1 + n, q.2.1, q.2.2 + n)
def blR (n : Nat) (R : List (Nat × Nat × Nat)) : Bool := R.all fun q => Nat.blt q.1 n
theorem lk3_c {a f x y w : Nat} {t : List (Nat × Nat × Nat)} : lk3 ((x, y, w) :: t) a f = if a = x ∧ f = y then some w else lk3 t a f := rfl
theorem lk3_q {a f : Nat} {q : Nat × Nat × Nat} {t : List (Nat × Nat × Nat)} : lk3 (q :: t) a f = if a = q.1 ∧ f = q.2.1 then some q.2.2 else lk3 t a f := rfl
theorem lk3_n {n a f : Nat} : ∀ {R : List (Nat × Nat × Nat)}, blR n R = true → n ≤ a → lk3 R a f = none := by
  intro R
  induction R with
  | nil => intro _ _; rfl
  | cons q t ih =>
    intro h hn
    unfold blR at h
    rw [List.all_cons, Bool.and_eq_true] at h
    have h1 : q.1 < n := by
      have := h.1
      rw [Nat.blt_eq] at this
      exact this
    rw [lk3_q, if_neg (by omega)]
    exact ih h.2 hn
theorem lk3_app {a f : Nat} : ∀ {R Q : List (Nat × Nat × Nat)}, lk3 (R ++ Q) a f = match lk3 R a f with
    | some b => some b
    | none => lk3 Q a f := by
  intro R
  induction R with
  | nil => intro Q; rfl
  | cons q t ih =>
    intro Q
    rw [List.cons_append, lk3_q, lk3_q]
    by_cases c : a = q.1 ∧ f = q.2.1
    · rw [if_pos c, if_pos c]
    · rw [if_neg c, if_neg c, ih]
theorem lk3_sh {n a f : Nat} : ∀ {R : List (Nat × Nat × Nat)}, lk3 (shR n R) a f = if n ≤ a then (lk3 R (a - n) f).map (fun b => b + n) else none := by
  intro R
  induction R with
  | nil =>
    show (none : Option Nat) = if n ≤ a then (none : Option Nat).map (fun b => b + n) else none
    split <;> rfl
  | cons q t ih =>
    show lk3 ((q.1 + n, q.2.1, q.2.2 + n) :: shR n t) a f = _
    rw [lk3_c, lk3_q, ih]
    by_cases hn : n ≤ a
    · rw [if_pos hn, if_pos hn]
      by_cases c : a - n = q.1 ∧ f = q.2.1
      · rw [if_pos c, if_pos ⟨by omega, c.2⟩]
        rfl
      · rw [if_neg c, if_neg (fun z => c ⟨by have := z.1; omega, z.2⟩)]
    · rw [if_neg hn, if_neg hn, if_neg (by omega)]
theorem lk3_sk {n a f : Nat} {R Q : List (Nat × Nat × Nat)} (h : a < n) : lk3 (shR n R ++ Q) a f = lk3 Q a f := by
  rw [lk3_app, lk3_sh, if_neg (by omega)]
section BKL
variable {α : Type} {lo a b c f t z n m k : Nat} {μ : rM} {I : Nat → Int → Int} {L L' : List rKd} {R R' : List (Nat × Nat × Nat)} {U V : Nat} {x v : Int} {r r1 r2 : Option α} {kd : rKd}
theorem bkl_0 (h : rz μ = z) : bkl μ z 0 L R 0 = μ := by
  obtain ⟨m1, m2, m3, m4, m5, m6⟩ := μ
  have h' : m5 = z := h
  unfold bkl
  have e : ∀ a, ¬ (z ≤ a ∧ a < z + 0) := fun a => by omega
  simp only [e, if_false]
  rw [← h']
  rfl
theorem rz_bkl : rz (mj (bkl μ z n L R U) I) = z + n := rfl
theorem rk_bkl (h : L[n - 1 - a]? = some kd) (ha : a < n) : rk (bkl μ z n L R U) (z + a) = some kd := by
  show (if z ≤ z + a ∧ z + a < z + n then L[n - 1 - (z + a - z)]? else rk μ (z + a)) = _
  rw [if_pos (by omega), show z + a - z = a by omega, h]
theorem rr_bkl (h : lk3 R a f = some b) (ha : a < n) : rr (bkl μ z n L R U) (z + a) f = some (z + b) := by
  show (if z ≤ z + a ∧ z + a < z + n then (lk3 R (z + a - z) f).map (fun b => z + b) else rr μ (z + a) f) = _
  rw [if_pos (by omega), show z + a - z = a by omega, h]
  rfl
theorem gP_bkl (hl : lo ≤ z) (h : L[n - 1 - a]? = some (.inl c)) (ha : a < n) : gP lo (mj (bkl μ z n L R U) I) (z + a) c r = r := gP_k (rk_bkl h ha) (by omega)
theorem gO_bkl (h : L[n - 1 - a]? = some (.inl c)) (ha : a < n) : gO (mj (bkl μ z n L R U) I) (z + a) c r = r := gO_k (rk_bkl h ha)
theorem gR_bkl (g : Nat → Option α) (ha : a < n) : gR (rr (mj (bkl μ z n L R U) I) (z + a) f) g r = gR ((lk3 R a f).map fun b => z + b) g r := by
  have : rr (mj (bkl μ z n L R U) I) (z + a) f = (lk3 R a f).map fun b => z + b := by
    show (if z ≤ z + a ∧ z + a < z + n then (lk3 R (z + a - z) f).map (fun b => z + b) else rr μ (z + a) f) = _
    rw [if_pos (by omega), show z + a - z = a by omega]
  rw [this]
theorem gR_some (g : Nat → Option α) : gR (some a) g r = g a := rfl
theorem nw_bkl (h : blR n R = true) : nw (mj (bkl μ z n L R U) I) kd m = mj (bkl μ z (n + 1) (kd :: L) R (U + m)) (sA I (z + n) Z0) := by
  unfold nw mj
  refine Prod.ext ?_ (Prod.ext ?_ (Prod.ext ?_ (Prod.ext ?_ (Prod.ext ?_ ?_))))
  · funext b
    show (if b = z + n then some kd else if z ≤ b ∧ b < z + n then L[n - 1 - (b - z)]? else rk μ b) = if z ≤ b ∧ b < z + (n + 1) then (kd :: L)[n + 1 - 1 - (b - z)]? else rk μ b
    by_cases c : b = z + n
    · rw [if_pos c, if_pos (by omega), show n + 1 - 1 - (b - z) = 0 by omega]
      rfl
    · rw [if_neg c]
      by_cases c2 : z ≤ b ∧ b < z + n
      · rw [if_pos c2, if_pos (by omega), show n + 1 - 1 - (b - z) = (n - 1 - (b - z)) + 1 by omega, List.getElem?_cons_succ]
      · rw [if_neg c2, if_neg (by omega)]
  · funext b j
    show (if b = z + n then 0 else J (I b (j : Int))) = J (sA I (z + n) Z0 b (j : Int))
    by_cases c : b = z + n
    · rw [if_pos c, c, sA_s]
      rfl
    · rw [if_neg c, sA_n c]
  · funext b j
    show (if b = z + n then none else if z ≤ b ∧ b < z + n then (lk3 R (b - z) j).map (fun b => z + b) else rr μ b j) = if z ≤ b ∧ b < z + (n + 1) then (lk3 R (b - z) j).map (fun b => z + b) else rr μ b j
    by_cases c : b = z + n
    · rw [if_pos c, if_pos (by omega), lk3_n h (by omega)]
      rfl
    · rw [if_neg c]
      by_cases c2 : z ≤ b ∧ b < z + n
      · rw [if_pos c2, if_pos (by omega)]
      · rw [if_neg c2, if_neg (by omega)]
  · funext b j
    show (if b = z + n then 0 else if z ≤ b ∧ b < z + n then 0 else rl μ b j) = if z ≤ b ∧ b < z + (n + 1) then 0 else rl μ b j
    by_cases c : b = z + n
    · rw [if_pos c, if_pos (by omega)]
    · rw [if_neg c]
      by_cases c2 : z ≤ b ∧ b < z + n
      · rw [if_pos c2, if_pos (by omega)]
      · rw [if_neg c2, if_neg (by omega)]
  · rfl
  · exact Nat.add_assoc (ru μ) U m
theorem wr_bkl (ha : a < n) : wr (mj (bkl μ z n L R U) I) (z + a) f (some (z + b)) = mj (bkl μ z n L ((a, f, b) :: R) U) I := by
  unfold wr mj bkl up2
  refine Prod.ext rfl (Prod.ext rfl (Prod.ext ?_ rfl))
  funext c j
  show (if c = z + a ∧ j = f then some (z + b) else if z ≤ c ∧ c < z + n then (lk3 R (c - z) j).map (fun b => z + b) else rr μ c j) = if z ≤ c ∧ c < z + n then (lk3 ((a, f, b) :: R) (c - z) j).map (fun b => z + b) else rr μ c j
  by_cases c1 : c = z + a ∧ j = f
  · rw [if_pos c1, if_pos (by omega)]
    rw [lk3_c, if_pos (by omega)]
    rfl
  · rw [if_neg c1]
    by_cases c2 : z ≤ c ∧ c < z + n
    · rw [if_pos c2, if_pos c2]
      rw [lk3_c, if_neg (by omega)]
    · rw [if_neg c2, if_neg c2]
theorem mg_bkl (h : blR n R = true) (hL : L'.length = m) : bkl (bkl μ z n L R U) (z + n) m L' R' V = bkl μ z (n + m) (L' ++ L) (shR n R' ++ R) (U + V) := by
  unfold bkl
  refine Prod.ext ?_ (Prod.ext rfl (Prod.ext ?_ (Prod.ext ?_ (Prod.ext ?_ ?_))))
  · funext b
    show (if z + n ≤ b ∧ b < z + n + m then L'[m - 1 - (b - (z + n))]? else if z ≤ b ∧ b < z + n then L[n - 1 - (b - z)]? else rk μ b) = if z ≤ b ∧ b < z + (n + m) then (L' ++ L)[n + m - 1 - (b - z)]? else rk μ b
    by_cases c : z + n ≤ b ∧ b < z + n + m
    · rw [if_pos c, if_pos (by omega), List.getElem?_append_left (by omega)]
      congr 1
      omega
    · rw [if_neg c]
      by_cases c2 : z ≤ b ∧ b < z + n
      · rw [if_pos c2, if_pos (by omega), List.getElem?_append_right (by omega)]
        congr 1
        omega
      · rw [if_neg c2, if_neg (by omega)]
  · funext b j
    show (if z + n ≤ b ∧ b < z + n + m then (lk3 R' (b - (z + n)) j).map (fun b => z + n + b) else if z ≤ b ∧ b < z + n then (lk3 R (b - z) j).map (fun b => z + b) else rr μ b j) = if z ≤ b ∧ b < z + (n + m) then (lk3 (shR n R' ++ R) (b - z) j).map (fun b => z + b) else rr μ b j
    by_cases c : z + n ≤ b ∧ b < z + n + m
    · rw [if_pos c, if_pos (by omega), lk3_app, lk3_sh, if_pos (by omega), show b - z - n = b - (z + n) by omega]
      cases lk3 R' (b - (z + n)) j with
      | none =>
        dsimp only [Option.map_none]
        rw [lk3_n h (by omega)]
        rfl
      | some q =>
        dsimp only [Option.map_some]
        congr 1
        omega
    · rw [if_neg c]
      by_cases c2 : z ≤ b ∧ b < z + n
      · rw [if_pos c2, if_pos (by omega), lk3_app, lk3_sh, if_neg (by omega)]
      · rw [if_neg c2, if_neg (by omega)]
  · funext b j
    show (if z + n ≤ b ∧ b < z + n + m then 0 else if z ≤ b ∧ b < z + n then 0 else rl μ b j) = if z ≤ b ∧ b < z + (n + m) then 0 else rl μ b j
    by_cases c : z + n ≤ b ∧ b < z + n + m
    · rw [if_pos c, if_pos (by omega)]
    · rw [if_neg c]
      by_cases c2 : z ≤ b ∧ b < z + n
      · rw [if_pos c2, if_pos (by omega)]
      · rw [if_neg c2, if_neg (by omega)]
  · exact Nat.add_assoc z n m
  · exact Nat.add_assoc (ru μ) U V
theorem wrR_bkl (hl : lo ≤ z) {t w : Nat} (h : L[n - 1 - a]? = some (.inr (t + 4, w))) (ha : a < n) (hx : 0 ≤ x ∧ x < w ∧ x < 2147483648) (hb : L[n - 1 - b]? = some (.inl t)) (hbn : b < n) (ho : pAok PG t = true) : wrR lo (mj (bkl μ z n L R U) I) (z + a) (J x) (z + b) r = r := by
  unfold wrR
  rw [rk_j, rk_bkl h ha]
  refine if_pos ⟨by dsimp only; omega, J_aIn hx, by omega, ?_, ?_⟩
  · rw [rk_j, rk_bkl hb hbn]
    rfl
  · exact ho
theorem Sh_bkl {l : List (Nat × Nat × Nat × Nat)} (h : L[n - 1 - a]? = some (.inl c)) (ha : a < n) (hq : ∀ q ∈ l, lk3 R a q.1 = some (a + q.2.1) ∧ L[n - 1 - (a + q.2.1)]? = some (.inr (q.2.2.1, q.2.2.2)) ∧ a + q.2.1 < n) : rk (bkl μ z n L R U) (z + a) = some (.inl c) ∧ ∀ q ∈ l, rr (bkl μ z n L R U) (z + a) q.1 = some (z + a + q.2.1) ∧ rk (bkl μ z n L R U) (z + a + q.2.1) = some (.inr (q.2.2.1, q.2.2.2)) := ⟨rk_bkl h ha, fun q hl => ⟨by rw [Nat.add_assoc]; exact rr_bkl (hq q hl).1 ha, by rw [Nat.add_assoc]; exact rk_bkl (hq q hl).2.1 (hq q hl).2.2⟩⟩
end BKL
