/-! WORDS: the class's lists against the reference's codes -/
/-- the signs of a word, from p on, end at e -/
def mtF (B : Int → Int) : List Int → Int → Int → Bool
  | [], p, e => decide (p = e)
  | c :: r, p, e => decide (p < e ∧ B p = c) && mtF B r (p + 1) e
def wfl (B : Int → Int) (w e : Int) : List (List Int) → Int → Int
  | [], _ => -1
  | W :: r, i => if mtF B W w e = true then i else wfl B w e r (i + 1)
def jn : List (List Int) → List Int
  | [] => []
  | [W] => W
  | W :: V :: r => W ++ 32 :: jn (V :: r)
def preF (B : Int → Int) (e : Int) : List Int → Int → Bool
  | [], _ => true
  | c :: r, p => decide (p < e ∧ B p = c) && preF B e r (p + 1)
theorem mt_pre {B : Int → Int} {e : Int} : ∀ (W : List Int) (p : Int), mtF B W p e = (preF B e W p && decide (p + W.length = e))
  | [], p => by
    show decide (p = e) = (true && decide (p + ((0 : Nat) : Int) = e))
    rw [Bool.true_and, show p + ((0 : Nat) : Int) = p by omega]
  | c :: r, p => by
    show (decide (p < e ∧ B p = c) && mtF B r (p + 1) e) = ((decide (p < e ∧ B p = c) && preF B e r (p + 1)) && decide (p + ((r.length + 1 : Nat) : Int) = e))
    rw [mt_pre r (p + 1), Bool.and_assoc, show p + ((r.length + 1 : Nat) : Int) = p + 1 + (r.length : Int) by omega]
section WORDS
variable {C B : Int → Int} {n w e : Int}
theorem wl_seg : ∀ (W : List Int) (k : Nat) (i idx p : Int) (same : Bool), (∀ j : Nat, j < W.length → C (i + j) = W.getD j 0) → (∀ c ∈ W, c ≠ 32) → i + W.length ≤ n → wlF C n B w e (W.length + k) i idx p same = wlF C n B w e k (i + W.length) idx (p + W.length) (same && preF B e W p)
  | [], k, i, idx, p, same, _, _, _ => by
    show wlF C n B w e (0 + k) i idx p same = wlF C n B w e k (i + ((0 : Nat) : Int)) idx (p + ((0 : Nat) : Int)) (same && true)
    rw [Nat.zero_add, Bool.and_true, show i + ((0 : Nat) : Int) = i by omega, show p + ((0 : Nat) : Int) = p by omega]
  | c :: r, k, i, idx, p, same, h, hc, hi => by
    have hl : ((c :: r).length : Int) = (r.length : Int) + 1 := by simp
    have h0 : C i = c := by
      have := h 0 (by simp)
      rw [show i + ((0 : Nat) : Int) = i by omega] at this
      exact this
    have hn : ¬ (i = n ∨ C i = 32) := by
      rintro (q | q)
      · omega
      · exact hc c (by simp) (h0.symm.trans q)
    rw [show (c :: r).length + k = (r.length + k) + 1 by simp; omega]
    show (if i = n ∨ C i = 32 then _ else wlF C n B w e (r.length + k) (i + 1) idx (p + 1) (same && decide (p < e ∧ B p = C i))) = _
    rw [if_neg hn, wl_seg r k (i + 1) idx (p + 1) _ (fun j hj => by
      have := h (j + 1) (by simp; omega)
      rw [show i + ((j + 1 : Nat) : Int) = i + 1 + (j : Int) by omega] at this
      exact this) (fun x hx => hc x (by simp [hx])) (by omega), hl, h0, Bool.and_assoc]
    show wlF C n B w e k (i + 1 + r.length) idx (p + 1 + r.length) (same && (decide (p < e ∧ B p = c) && preF B e r (p + 1))) = wlF C n B w e k (i + (r.length + 1)) idx (p + (r.length + 1)) (same && preF B e (c :: r) p)
    rw [show i + 1 + (r.length : Int) = i + (r.length + 1) by omega, show p + 1 + (r.length : Int) = p + (r.length + 1) by omega]
    rfl
theorem wl_all : ∀ (ws : List (List Int)) (i idx : Int), ws ≠ [] → (∀ j : Nat, j < (jn ws).length → C (i + j) = (jn ws).getD j 0) → (∀ W ∈ ws, ∀ c ∈ W, c ≠ 32) → i + (jn ws).length = n → wlF C n B w e ((jn ws).length + 1) i idx w true = wfl B w e ws idx
  | [], _, _, h, _, _, _ => absurd rfl h
  | [W], i, idx, _, h, hc, hi => by
    have s := wl_seg (B := B) (w := w) (e := e) (n := n) W 1 i idx w true h (hc W (by simp)) (by show i + (W.length : Int) ≤ n; exact Int.le_of_eq hi)
    show wlF C n B w e (W.length + 1) i idx w true = _
    rw [s]
    show (if i + (W.length : Int) = n ∨ _ then (if (true && preF B e W w) = true ∧ w + (W.length : Int) = e then idx else -1) else _) = (if mtF B W w e = true then idx else -1)
    have hi' : i + (W.length : Int) = n := hi
    rw [if_pos (Or.inl hi'), mt_pre]
    by_cases q : (true && preF B e W w) = true ∧ w + (W.length : Int) = e
    · rw [if_pos q, if_pos (by rw [Bool.true_and] at q; rw [q.1, decide_eq_true q.2]; rfl)]
    · rw [if_neg q, if_neg (fun z => q (by
        rw [Bool.and_eq_true, decide_eq_true_eq] at z
        exact ⟨by rw [Bool.true_and]; exact z.1, z.2⟩))]
  | W :: V :: r, i, idx, _, h, hc, hi => by
    have hlen : (jn (W :: V :: r)).length = W.length + ((jn (V :: r)).length + 1) := by
      show (W ++ 32 :: jn (V :: r)).length = _
      simp
    rw [hlen] at h hi ⊢
    have e0 : ∀ j : Nat, j < W.length → C (i + j) = W.getD j 0 := fun j hj => by
      rw [h j (by omega)]
      show (W ++ 32 :: jn (V :: r)).getD j 0 = _
      rw [List.getD_eq_getElem?_getD, List.getD_eq_getElem?_getD, List.getElem?_append_left hj]
    have e1 : C (i + W.length) = 32 := by
      rw [h W.length (by omega)]
      show (W ++ 32 :: jn (V :: r)).getD W.length 0 = _
      rw [List.getD_eq_getElem?_getD, List.getElem?_append_right (Nat.le_refl _), Nat.sub_self]
      rfl
    have e2 : ∀ j : Nat, j < (jn (V :: r)).length → C (i + W.length + 1 + j) = (jn (V :: r)).getD j 0 := fun j hj => by
      have := h (W.length + 1 + j) (by omega)
      rw [show i + W.length + 1 + (j : Int) = i + ((W.length + 1 + j : Nat) : Int) by omega, this]
      show (W ++ 32 :: jn (V :: r)).getD (W.length + 1 + j) 0 = _
      rw [List.getD_eq_getElem?_getD, List.getD_eq_getElem?_getD, List.getElem?_append_right (by omega), show W.length + 1 + j - W.length = j + 1 by omega, List.getElem?_cons_succ]
    have s := wl_seg (B := B) (w := w) (e := e) (n := n) W ((jn (V :: r)).length + 1 + 1) i idx w true e0 (hc W (by simp)) (by omega)
    rw [show W.length + ((jn (V :: r)).length + 1) + 1 = W.length + ((jn (V :: r)).length + 1 + 1) by omega, s]
    show (if i + (W.length : Int) = n ∨ C (i + W.length) = 32 then (if (true && preF B e W w) = true ∧ w + (W.length : Int) = e then idx else wlF C n B w e ((jn (V :: r)).length + 1) (i + W.length + 1) (idx + 1) w true) else _) = (if mtF B W w e = true then idx else wfl B w e (V :: r) (idx + 1))
    rw [if_pos (Or.inr e1), wl_all (V :: r) (i + W.length + 1) (idx + 1) (by simp) e2 (fun X hX => hc X (by simp at hX ⊢; exact Or.inr hX)) (by omega), mt_pre]
    by_cases q : (true && preF B e W w) = true ∧ w + (W.length : Int) = e
    · rw [if_pos q, if_pos (by rw [Bool.true_and] at q; rw [q.1, decide_eq_true q.2]; rfl)]
    · rw [if_neg q, if_neg (fun z => q (by
        rw [Bool.and_eq_true, decide_eq_true_eq] at z
        exact ⟨by rw [Bool.true_and]; exact z.1, z.2⟩))]
/-- a word's code, its last sign first -/
def cdR : List Int → Int
  | [] => 0
  | d :: r => 32 * cdR r + d - 96
/-- the same, backwards -/
def mtR (B : Int → Int) (w : Int) : List Int → Int → Prop
  | [], k => k = 0
  | d :: r, k => 0 < k ∧ B (w + k - 1) = d ∧ mtR B w r (k - 1)
theorem cd_R : ∀ (R : List Int) (k : Int), 0 ≤ k → k ≤ 8 → (∀ i, 0 ≤ i → i < k → 97 ≤ B (w + i) ∧ B (w + i) ≤ 122) → (∀ c ∈ R, 97 ≤ c ∧ c ≤ 122) → (cdQ B w k = cdR R ↔ mtR B w R k)
  | [], k, h0, h8, hb, _ => by
    show cdQ B w k = 0 ↔ k = 0
    constructor
    · intro h
      by_cases c : k = 0
      · exact c
      · exfalso
        have e := cdQ_s (B := B) (w := w) (k := k - 1) (by omega)
        rw [show k - 1 + 1 = k by omega, if_pos (by omega)] at e
        have b := hb (k - 1) (by omega) (by omega)
        have c2 := cdQ_40 (B := B) (w := w) (k := k - 1) (by omega) (fun i g1 g2 => hb i g1 (by omega))
        omega
    · intro h
      rw [h]
      rfl
  | d :: r, k, h0, h8, hb, hc => by
    have hd := hc d (by simp)
    show cdQ B w k = 32 * cdR r + d - 96 ↔ (0 < k ∧ B (w + k - 1) = d ∧ mtR B w r (k - 1))
    have hr : ∀ R : List Int, (∀ c ∈ R, 97 ≤ c ∧ c ≤ 122) → 0 ≤ cdR R := by
      intro R
      induction R with
      | nil => intro _; show (0 : Int) ≤ 0; omega
      | cons a t ih =>
        intro h
        have h1 := h a (by simp)
        have h2 := ih (fun c q => h c (by simp [q]))
        show 0 ≤ 32 * cdR t + a - 96
        omega
    have hr' := hr r (fun c q => hc c (by simp [q]))
    by_cases c : k = 0
    · constructor
      · intro h
        rw [c] at h
        have : (0 : Int) = 32 * cdR r + d - 96 := h
        omega
      · intro h; omega
    · have ih := cd_R r (k - 1) (by omega) (by omega) (fun i g1 g2 => hb i g1 (by omega)) (fun x q => hc x (by simp [q]))
      have e := cdQ_s (B := B) (w := w) (k := k - 1) (by omega)
      rw [show k - 1 + 1 = k by omega, if_pos (by omega), show w + (k - 1) = w + k - 1 by omega] at e
      have b := hb (k - 1) (by omega) (by omega)
      rw [show w + (k - 1) = w + k - 1 by omega] at b
      rw [e, ← ih]
      constructor
      · intro h; exact ⟨by omega, by omega, by omega⟩
      · rintro ⟨_, h1, h2⟩; omega
theorem mt_snoc : ∀ (W : List Int) (d p e : Int), mtF B (W ++ [d]) p e = true ↔ (p < e ∧ B (e - 1) = d ∧ mtF B W p (e - 1) = true)
  | [], d, p, e => by
    show (decide (p < e ∧ B p = d) && decide (p + 1 = e)) = true ↔ (p < e ∧ B (e - 1) = d ∧ decide (p = e - 1) = true)
    rw [Bool.and_eq_true, decide_eq_true_eq, decide_eq_true_eq, decide_eq_true_eq]
    constructor
    · rintro ⟨⟨h1, h2⟩, h3⟩
      exact ⟨h1, by rw [← h3, show p + 1 - 1 = p by omega]; exact h2, by omega⟩
    · rintro ⟨h1, h2, h3⟩
      exact ⟨⟨h1, by rw [h3]; exact h2⟩, by omega⟩
  | c :: r, d, p, e => by
    show (decide (p < e ∧ B p = c) && mtF B (r ++ [d]) (p + 1) e) = true ↔ (p < e ∧ B (e - 1) = d ∧ (decide (p < e - 1 ∧ B p = c) && mtF B r (p + 1) (e - 1)) = true)
    rw [Bool.and_eq_true, Bool.and_eq_true, decide_eq_true_eq, decide_eq_true_eq, mt_snoc r d (p + 1) e]
    constructor
    · rintro ⟨⟨h1, h2⟩, h3, h4, h5⟩
      exact ⟨h1, h4, ⟨by omega, h2⟩, h5⟩
    · rintro ⟨h1, h2, ⟨h3, h4⟩, h5⟩
      exact ⟨⟨h1, h4⟩, by omega, h2, h5⟩
theorem mt_R : ∀ (R : List Int) (k : Int), 0 ≤ k → (mtF B R.reverse w (w + k) = true ↔ mtR B w R k)
  | [], k, h => by
    show decide (w = w + k) = true ↔ k = 0
    rw [decide_eq_true_eq]
    constructor <;> intro _ <;> omega
  | d :: r, k, h => by
    rw [List.reverse_cons, mt_snoc]
    show _ ↔ (0 < k ∧ B (w + k - 1) = d ∧ mtR B w r (k - 1))
    by_cases c : 0 < k
    · have := mt_R r (k - 1) (by omega)
      rw [show w + (k - 1) = w + k - 1 by omega] at this
      rw [this]
      constructor
      · rintro ⟨_, h2, h3⟩; exact ⟨c, h2, h3⟩
      · rintro ⟨_, h2, h3⟩; exact ⟨by omega, h2, h3⟩
    · constructor
      · rintro ⟨h1, _⟩; omega
      · rintro ⟨h1, _⟩; omega
/-- a word is there just where its code is -/
theorem mt_cd {W : List Int} {v : Int} (hv : cdR W.reverse = v) (hW : ∀ c ∈ W.reverse, 97 ≤ c ∧ c ≤ 122) (h0 : 0 ≤ e - w) (h8 : e - w ≤ 8) (hb : ∀ i, 0 ≤ i → i < e - w → 97 ≤ B (w + i) ∧ B (w + i) ≤ 122) : (mtF B W w e = true) = (cdQ B w (e - w) = v) := by
  apply propext
  have h1 := cd_R (B := B) (w := w) W.reverse (e - w) h0 h8 hb hW
  have h2 := mt_R (B := B) (w := w) W.reverse (e - w) h0
  rw [List.reverse_reverse, show w + (e - w) = e by omega] at h2
  rw [← hv, h1, h2]
theorem mt_len : ∀ (W : List Int) (p : Int), mtF B W p e = true → e = p + W.length
  | [], p, h => by
    have : p = e := of_decide_eq_true h
    show e = p + ((0 : Nat) : Int)
    omega
  | c :: r, p, h => by
    have h' : (decide (p < e ∧ B p = c) && mtF B r (p + 1) e) = true := h
    rw [Bool.and_eq_true] at h'
    have := mt_len r (p + 1) h'.2
    show e = p + ((r.length + 1 : Nat) : Int)
    omega
end WORDS
/-- the words of a sort -/
def wsL (s : Int) : List (List Int) := if s = 0 then [[104, 111, 117, 115, 101, 115], [100, 111, 111, 114], [99, 97, 116], [112, 108, 97, 105, 110], [109, 111, 116, 104, 101, 114], [99, 104, 105, 108, 100], [114, 105, 99, 104], [119, 105, 110, 101], [112, 111, 112, 112, 121], [115, 116, 97, 110, 100, 115]] else if s = 1 then [[109, 97, 114, 107], [99, 97, 112], [102, 105, 110, 101], [102, 114, 101, 101], [114, 97, 116, 101], [115, 104, 97, 114, 101, 100]] else if s = 2 then [[98, 101, 103, 105, 110], [103, 111], [115, 111, 117, 110, 100], [119, 97, 105, 116]] else [[99, 97, 117, 103, 104, 116], [113, 117, 105, 101, 116]]
theorem wo_n {v : Int} (h0 : ¬ v = 284871859) (h1 : ¬ v = 146930) (h2 : ¬ v = 3124) (h3 : ¬ v = 17171758) (h4 : ¬ v = 452599986) (h5 : ¬ v = 3417476) (h6 : ¬ v = 599144) (h7 : ¬ v = 763333) (h8 : ¬ v = 17285657) (h9 : ¬ v = 658552979) (h10 : ¬ v = 427595) (h11 : ¬ v = 3120) (h12 : ¬ v = 206277) (h13 : ¬ v = 215205) (h14 : ¬ v = 591493) (h15 : ¬ v = 645974180) (h16 : ¬ v = 2268462) (h17 : ¬ v = 239) (h18 : ¬ v = 20436420) (h19 : ¬ v = 754996) (h20 : ¬ v = 102407444) (h21 : ¬ v = 18523316) : wo v = 99 := by
  unfold wo wa
  rw [if_neg h0, if_neg h1, if_neg h2, if_neg h3, if_neg h4, if_neg h5, if_neg h6, if_neg h7, if_neg h8, if_neg h9, if_neg h10, if_neg h11, if_neg h12, if_neg h13, if_neg h14, if_neg h15, if_neg h16, if_neg h17, if_neg h18, if_neg h19, if_neg h20, if_neg h21]
section WORDS
variable {B : Int → Int} {w e n : Int}
theorem wf_0 (h0 : 0 ≤ e - w) (hb : ∀ i, 0 ≤ i → i < e - w → 97 ≤ B (w + i) ∧ B (w + i) ≤ 122) : wfl B w e (wsL 0) 0 = if 1 ≤ wdC B w e ∧ wdC B w e ≤ 10 then wdC B w e - 1 - 0 else -1 := by
  by_cases h8 : e - w ≤ 8
  · obtain ⟨v, hv⟩ : ∃ v, v = cdQ B w (e - w) := ⟨_, rfl⟩
    have ew : wdC B w e = wo v := by
      unfold wdC
      rw [if_pos h8, hv]
    have el : wfl B w e (wsL 0) 0 = if v = 284871859 then 0 else if v = 146930 then 1 else if v = 3124 then 2 else if v = 17171758 then 3 else if v = 452599986 then 4 else if v = 3417476 then 5 else if v = 599144 then 6 else if v = 763333 then 7 else if v = 17285657 then 8 else if v = 658552979 then 9 else -1 := by
      show (if mtF B [104, 111, 117, 115, 101, 115] w e = true then (0 : Int) else if mtF B [100, 111, 111, 114] w e = true then (0 : Int) + 1 else if mtF B [99, 97, 116] w e = true then (0 : Int) + 1 + 1 else if mtF B [112, 108, 97, 105, 110] w e = true then (0 : Int) + 1 + 1 + 1 else if mtF B [109, 111, 116, 104, 101, 114] w e = true then (0 : Int) + 1 + 1 + 1 + 1 else if mtF B [99, 104, 105, 108, 100] w e = true then (0 : Int) + 1 + 1 + 1 + 1 + 1 else if mtF B [114, 105, 99, 104] w e = true then (0 : Int) + 1 + 1 + 1 + 1 + 1 + 1 else if mtF B [119, 105, 110, 101] w e = true then (0 : Int) + 1 + 1 + 1 + 1 + 1 + 1 + 1 else if mtF B [112, 111, 112, 112, 121] w e = true then (0 : Int) + 1 + 1 + 1 + 1 + 1 + 1 + 1 + 1 else if mtF B [115, 116, 97, 110, 100, 115] w e = true then (0 : Int) + 1 + 1 + 1 + 1 + 1 + 1 + 1 + 1 + 1 else -1) = _
      simp only [mt_cd (W := [104, 111, 117, 115, 101, 115]) (v := 284871859) rfl (by decide) h0 h8 hb, mt_cd (W := [100, 111, 111, 114]) (v := 146930) rfl (by decide) h0 h8 hb, mt_cd (W := [99, 97, 116]) (v := 3124) rfl (by decide) h0 h8 hb, mt_cd (W := [112, 108, 97, 105, 110]) (v := 17171758) rfl (by decide) h0 h8 hb, mt_cd (W := [109, 111, 116, 104, 101, 114]) (v := 452599986) rfl (by decide) h0 h8 hb, mt_cd (W := [99, 104, 105, 108, 100]) (v := 3417476) rfl (by decide) h0 h8 hb, mt_cd (W := [114, 105, 99, 104]) (v := 599144) rfl (by decide) h0 h8 hb, mt_cd (W := [119, 105, 110, 101]) (v := 763333) rfl (by decide) h0 h8 hb, mt_cd (W := [112, 111, 112, 112, 121]) (v := 17285657) rfl (by decide) h0 h8 hb, mt_cd (W := [115, 116, 97, 110, 100, 115]) (v := 658552979) rfl (by decide) h0 h8 hb, ← hv, Int.reduceAdd]
    rw [ew, el]
    by_cases h0 : v = 284871859
    · rw [h0]
      rfl
    by_cases h1 : v = 146930
    · rw [h1]
      rfl
    by_cases h2 : v = 3124
    · rw [h2]
      rfl
    by_cases h3 : v = 17171758
    · rw [h3]
      rfl
    by_cases h4 : v = 452599986
    · rw [h4]
      rfl
    by_cases h5 : v = 3417476
    · rw [h5]
      rfl
    by_cases h6 : v = 599144
    · rw [h6]
      rfl
    by_cases h7 : v = 763333
    · rw [h7]
      rfl
    by_cases h8 : v = 17285657
    · rw [h8]
      rfl
    by_cases h9 : v = 658552979
    · rw [h9]
      rfl
    by_cases h10 : v = 427595
    · rw [h10]
      rfl
    by_cases h11 : v = 3120
    · rw [h11]
      rfl
    by_cases h12 : v = 206277
    · rw [h12]
      rfl
    by_cases h13 : v = 215205
    · rw [h13]
      rfl
    by_cases h14 : v = 591493
    · rw [h14]
      rfl
    by_cases h15 : v = 645974180
    · rw [h15]
      rfl
    by_cases h16 : v = 2268462
    · rw [h16]
      rfl
    by_cases h17 : v = 239
    · rw [h17]
      rfl
    by_cases h18 : v = 20436420
    · rw [h18]
      rfl
    by_cases h19 : v = 754996
    · rw [h19]
      rfl
    by_cases h20 : v = 102407444
    · rw [h20]
      rfl
    by_cases h21 : v = 18523316
    · rw [h21]
      rfl
    rw [wo_n h0 h1 h2 h3 h4 h5 h6 h7 h8 h9 h10 h11 h12 h13 h14 h15 h16 h17 h18 h19 h20 h21, if_neg h0, if_neg h1, if_neg h2, if_neg h3, if_neg h4, if_neg h5, if_neg h6, if_neg h7, if_neg h8, if_neg h9, if_neg (by omega)]
  · have ew : wdC B w e = 99 := by
      unfold wdC
      rw [if_neg h8]
    have nm : ∀ W : List Int, W.length ≤ 8 → ¬ mtF B W w e = true := fun W hl h => by
      have := mt_len W w h
      omega
    have el : wfl B w e (wsL 0) 0 = -1 := by
      show (if mtF B [104, 111, 117, 115, 101, 115] w e = true then (0 : Int) else if mtF B [100, 111, 111, 114] w e = true then (0 : Int) + 1 else if mtF B [99, 97, 116] w e = true then (0 : Int) + 1 + 1 else if mtF B [112, 108, 97, 105, 110] w e = true then (0 : Int) + 1 + 1 + 1 else if mtF B [109, 111, 116, 104, 101, 114] w e = true then (0 : Int) + 1 + 1 + 1 + 1 else if mtF B [99, 104, 105, 108, 100] w e = true then (0 : Int) + 1 + 1 + 1 + 1 + 1 else if mtF B [114, 105, 99, 104] w e = true then (0 : Int) + 1 + 1 + 1 + 1 + 1 + 1 else if mtF B [119, 105, 110, 101] w e = true then (0 : Int) + 1 + 1 + 1 + 1 + 1 + 1 + 1 else if mtF B [112, 111, 112, 112, 121] w e = true then (0 : Int) + 1 + 1 + 1 + 1 + 1 + 1 + 1 + 1 else if mtF B [115, 116, 97, 110, 100, 115] w e = true then (0 : Int) + 1 + 1 + 1 + 1 + 1 + 1 + 1 + 1 + 1 else -1) = _
      rw [if_neg (nm [104, 111, 117, 115, 101, 115] (by decide)), if_neg (nm [100, 111, 111, 114] (by decide)), if_neg (nm [99, 97, 116] (by decide)), if_neg (nm [112, 108, 97, 105, 110] (by decide)), if_neg (nm [109, 111, 116, 104, 101, 114] (by decide)), if_neg (nm [99, 104, 105, 108, 100] (by decide)), if_neg (nm [114, 105, 99, 104] (by decide)), if_neg (nm [119, 105, 110, 101] (by decide)), if_neg (nm [112, 111, 112, 112, 121] (by decide)), if_neg (nm [115, 116, 97, 110, 100, 115] (by decide))]
    rw [ew, el, if_neg (by omega)]
theorem wf_1 (h0 : 0 ≤ e - w) (hb : ∀ i, 0 ≤ i → i < e - w → 97 ≤ B (w + i) ∧ B (w + i) ≤ 122) : wfl B w e (wsL 1) 0 = if 11 ≤ wdC B w e ∧ wdC B w e ≤ 16 then wdC B w e - 1 - 10 else -1 := by
  by_cases h8 : e - w ≤ 8
  · obtain ⟨v, hv⟩ : ∃ v, v = cdQ B w (e - w) := ⟨_, rfl⟩
    have ew : wdC B w e = wo v := by
      unfold wdC
      rw [if_pos h8, hv]
    have el : wfl B w e (wsL 1) 0 = if v = 427595 then 0 else if v = 3120 then 1 else if v = 206277 then 2 else if v = 215205 then 3 else if v = 591493 then 4 else if v = 645974180 then 5 else -1 := by
      show (if mtF B [109, 97, 114, 107] w e = true then (0 : Int) else if mtF B [99, 97, 112] w e = true then (0 : Int) + 1 else if mtF B [102, 105, 110, 101] w e = true then (0 : Int) + 1 + 1 else if mtF B [102, 114, 101, 101] w e = true then (0 : Int) + 1 + 1 + 1 else if mtF B [114, 97, 116, 101] w e = true then (0 : Int) + 1 + 1 + 1 + 1 else if mtF B [115, 104, 97, 114, 101, 100] w e = true then (0 : Int) + 1 + 1 + 1 + 1 + 1 else -1) = _
      simp only [mt_cd (W := [109, 97, 114, 107]) (v := 427595) rfl (by decide) h0 h8 hb, mt_cd (W := [99, 97, 112]) (v := 3120) rfl (by decide) h0 h8 hb, mt_cd (W := [102, 105, 110, 101]) (v := 206277) rfl (by decide) h0 h8 hb, mt_cd (W := [102, 114, 101, 101]) (v := 215205) rfl (by decide) h0 h8 hb, mt_cd (W := [114, 97, 116, 101]) (v := 591493) rfl (by decide) h0 h8 hb, mt_cd (W := [115, 104, 97, 114, 101, 100]) (v := 645974180) rfl (by decide) h0 h8 hb, ← hv, Int.reduceAdd]
    rw [ew, el]
    by_cases h0 : v = 284871859
    · rw [h0]
      rfl
    by_cases h1 : v = 146930
    · rw [h1]
      rfl
    by_cases h2 : v = 3124
    · rw [h2]
      rfl
    by_cases h3 : v = 17171758
    · rw [h3]
      rfl
    by_cases h4 : v = 452599986
    · rw [h4]
      rfl
    by_cases h5 : v = 3417476
    · rw [h5]
      rfl
    by_cases h6 : v = 599144
    · rw [h6]
      rfl
    by_cases h7 : v = 763333
    · rw [h7]
      rfl
    by_cases h8 : v = 17285657
    · rw [h8]
      rfl
    by_cases h9 : v = 658552979
    · rw [h9]
      rfl
    by_cases h10 : v = 427595
    · rw [h10]
      rfl
    by_cases h11 : v = 3120
    · rw [h11]
      rfl
    by_cases h12 : v = 206277
    · rw [h12]
      rfl
    by_cases h13 : v = 215205
    · rw [h13]
      rfl
    by_cases h14 : v = 591493
    · rw [h14]
      rfl
    by_cases h15 : v = 645974180
    · rw [h15]
      rfl
    by_cases h16 : v = 2268462
    · rw [h16]
      rfl
    by_cases h17 : v = 239
    · rw [h17]
      rfl
    by_cases h18 : v = 20436420
    · rw [h18]
      rfl
    by_cases h19 : v = 754996
    · rw [h19]
      rfl
    by_cases h20 : v = 102407444
    · rw [h20]
      rfl
    by_cases h21 : v = 18523316
    · rw [h21]
      rfl
    rw [wo_n h0 h1 h2 h3 h4 h5 h6 h7 h8 h9 h10 h11 h12 h13 h14 h15 h16 h17 h18 h19 h20 h21, if_neg h10, if_neg h11, if_neg h12, if_neg h13, if_neg h14, if_neg h15, if_neg (by omega)]
  · have ew : wdC B w e = 99 := by
      unfold wdC
      rw [if_neg h8]
    have nm : ∀ W : List Int, W.length ≤ 8 → ¬ mtF B W w e = true := fun W hl h => by
      have := mt_len W w h
      omega
    have el : wfl B w e (wsL 1) 0 = -1 := by
      show (if mtF B [109, 97, 114, 107] w e = true then (0 : Int) else if mtF B [99, 97, 112] w e = true then (0 : Int) + 1 else if mtF B [102, 105, 110, 101] w e = true then (0 : Int) + 1 + 1 else if mtF B [102, 114, 101, 101] w e = true then (0 : Int) + 1 + 1 + 1 else if mtF B [114, 97, 116, 101] w e = true then (0 : Int) + 1 + 1 + 1 + 1 else if mtF B [115, 104, 97, 114, 101, 100] w e = true then (0 : Int) + 1 + 1 + 1 + 1 + 1 else -1) = _
      rw [if_neg (nm [109, 97, 114, 107] (by decide)), if_neg (nm [99, 97, 112] (by decide)), if_neg (nm [102, 105, 110, 101] (by decide)), if_neg (nm [102, 114, 101, 101] (by decide)), if_neg (nm [114, 97, 116, 101] (by decide)), if_neg (nm [115, 104, 97, 114, 101, 100] (by decide))]
    rw [ew, el, if_neg (by omega)]
theorem wf_2 (h0 : 0 ≤ e - w) (hb : ∀ i, 0 ≤ i → i < e - w → 97 ≤ B (w + i) ∧ B (w + i) ≤ 122) : wfl B w e (wsL 2) 0 = if 17 ≤ wdC B w e ∧ wdC B w e ≤ 20 then wdC B w e - 1 - 16 else -1 := by
  by_cases h8 : e - w ≤ 8
  · obtain ⟨v, hv⟩ : ∃ v, v = cdQ B w (e - w) := ⟨_, rfl⟩
    have ew : wdC B w e = wo v := by
      unfold wdC
      rw [if_pos h8, hv]
    have el : wfl B w e (wsL 2) 0 = if v = 2268462 then 0 else if v = 239 then 1 else if v = 20436420 then 2 else if v = 754996 then 3 else -1 := by
      show (if mtF B [98, 101, 103, 105, 110] w e = true then (0 : Int) else if mtF B [103, 111] w e = true then (0 : Int) + 1 else if mtF B [115, 111, 117, 110, 100] w e = true then (0 : Int) + 1 + 1 else if mtF B [119, 97, 105, 116] w e = true then (0 : Int) + 1 + 1 + 1 else -1) = _
      simp only [mt_cd (W := [98, 101, 103, 105, 110]) (v := 2268462) rfl (by decide) h0 h8 hb, mt_cd (W := [103, 111]) (v := 239) rfl (by decide) h0 h8 hb, mt_cd (W := [115, 111, 117, 110, 100]) (v := 20436420) rfl (by decide) h0 h8 hb, mt_cd (W := [119, 97, 105, 116]) (v := 754996) rfl (by decide) h0 h8 hb, ← hv, Int.reduceAdd]
    rw [ew, el]
    by_cases h0 : v = 284871859
    · rw [h0]
      rfl
    by_cases h1 : v = 146930
    · rw [h1]
      rfl
    by_cases h2 : v = 3124
    · rw [h2]
      rfl
    by_cases h3 : v = 17171758
    · rw [h3]
      rfl
    by_cases h4 : v = 452599986
    · rw [h4]
      rfl
    by_cases h5 : v = 3417476
    · rw [h5]
      rfl
    by_cases h6 : v = 599144
    · rw [h6]
      rfl
    by_cases h7 : v = 763333
    · rw [h7]
      rfl
    by_cases h8 : v = 17285657
    · rw [h8]
      rfl
    by_cases h9 : v = 658552979
    · rw [h9]
      rfl
    by_cases h10 : v = 427595
    · rw [h10]
      rfl
    by_cases h11 : v = 3120
    · rw [h11]
      rfl
    by_cases h12 : v = 206277
    · rw [h12]
      rfl
    by_cases h13 : v = 215205
    · rw [h13]
      rfl
    by_cases h14 : v = 591493
    · rw [h14]
      rfl
    by_cases h15 : v = 645974180
    · rw [h15]
      rfl
    by_cases h16 : v = 2268462
    · rw [h16]
      rfl
    by_cases h17 : v = 239
    · rw [h17]
      rfl
    by_cases h18 : v = 20436420
    · rw [h18]
      rfl
    by_cases h19 : v = 754996
    · rw [h19]
      rfl
    by_cases h20 : v = 102407444
    · rw [h20]
      rfl
    by_cases h21 : v = 18523316
    · rw [h21]
      rfl
    rw [wo_n h0 h1 h2 h3 h4 h5 h6 h7 h8 h9 h10 h11 h12 h13 h14 h15 h16 h17 h18 h19 h20 h21, if_neg h16, if_neg h17, if_neg h18, if_neg h19, if_neg (by omega)]
  · have ew : wdC B w e = 99 := by
      unfold wdC
      rw [if_neg h8]
    have nm : ∀ W : List Int, W.length ≤ 8 → ¬ mtF B W w e = true := fun W hl h => by
      have := mt_len W w h
      omega
    have el : wfl B w e (wsL 2) 0 = -1 := by
      show (if mtF B [98, 101, 103, 105, 110] w e = true then (0 : Int) else if mtF B [103, 111] w e = true then (0 : Int) + 1 else if mtF B [115, 111, 117, 110, 100] w e = true then (0 : Int) + 1 + 1 else if mtF B [119, 97, 105, 116] w e = true then (0 : Int) + 1 + 1 + 1 else -1) = _
      rw [if_neg (nm [98, 101, 103, 105, 110] (by decide)), if_neg (nm [103, 111] (by decide)), if_neg (nm [115, 111, 117, 110, 100] (by decide)), if_neg (nm [119, 97, 105, 116] (by decide))]
    rw [ew, el, if_neg (by omega)]
theorem wf_3 (h0 : 0 ≤ e - w) (hb : ∀ i, 0 ≤ i → i < e - w → 97 ≤ B (w + i) ∧ B (w + i) ≤ 122) : wfl B w e (wsL 3) 0 = if 21 ≤ wdC B w e ∧ wdC B w e ≤ 22 then wdC B w e - 1 - 20 else -1 := by
  by_cases h8 : e - w ≤ 8
  · obtain ⟨v, hv⟩ : ∃ v, v = cdQ B w (e - w) := ⟨_, rfl⟩
    have ew : wdC B w e = wo v := by
      unfold wdC
      rw [if_pos h8, hv]
    have el : wfl B w e (wsL 3) 0 = if v = 102407444 then 0 else if v = 18523316 then 1 else -1 := by
      show (if mtF B [99, 97, 117, 103, 104, 116] w e = true then (0 : Int) else if mtF B [113, 117, 105, 101, 116] w e = true then (0 : Int) + 1 else -1) = _
      simp only [mt_cd (W := [99, 97, 117, 103, 104, 116]) (v := 102407444) rfl (by decide) h0 h8 hb, mt_cd (W := [113, 117, 105, 101, 116]) (v := 18523316) rfl (by decide) h0 h8 hb, ← hv, Int.reduceAdd]
    rw [ew, el]
    by_cases h0 : v = 284871859
    · rw [h0]
      rfl
    by_cases h1 : v = 146930
    · rw [h1]
      rfl
    by_cases h2 : v = 3124
    · rw [h2]
      rfl
    by_cases h3 : v = 17171758
    · rw [h3]
      rfl
    by_cases h4 : v = 452599986
    · rw [h4]
      rfl
    by_cases h5 : v = 3417476
    · rw [h5]
      rfl
    by_cases h6 : v = 599144
    · rw [h6]
      rfl
    by_cases h7 : v = 763333
    · rw [h7]
      rfl
    by_cases h8 : v = 17285657
    · rw [h8]
      rfl
    by_cases h9 : v = 658552979
    · rw [h9]
      rfl
    by_cases h10 : v = 427595
    · rw [h10]
      rfl
    by_cases h11 : v = 3120
    · rw [h11]
      rfl
    by_cases h12 : v = 206277
    · rw [h12]
      rfl
    by_cases h13 : v = 215205
    · rw [h13]
      rfl
    by_cases h14 : v = 591493
    · rw [h14]
      rfl
    by_cases h15 : v = 645974180
    · rw [h15]
      rfl
    by_cases h16 : v = 2268462
    · rw [h16]
      rfl
    by_cases h17 : v = 239
    · rw [h17]
      rfl
    by_cases h18 : v = 20436420
    · rw [h18]
      rfl
    by_cases h19 : v = 754996
    · rw [h19]
      rfl
    by_cases h20 : v = 102407444
    · rw [h20]
      rfl
    by_cases h21 : v = 18523316
    · rw [h21]
      rfl
    rw [wo_n h0 h1 h2 h3 h4 h5 h6 h7 h8 h9 h10 h11 h12 h13 h14 h15 h16 h17 h18 h19 h20 h21, if_neg h20, if_neg h21, if_neg (by omega)]
  · have ew : wdC B w e = 99 := by
      unfold wdC
      rw [if_neg h8]
    have nm : ∀ W : List Int, W.length ≤ 8 → ¬ mtF B W w e = true := fun W hl h => by
      have := mt_len W w h
      omega
    have el : wfl B w e (wsL 3) 0 = -1 := by
      show (if mtF B [99, 97, 117, 103, 104, 116] w e = true then (0 : Int) else if mtF B [113, 117, 105, 101, 116] w e = true then (0 : Int) + 1 else -1) = _
      rw [if_neg (nm [99, 97, 117, 103, 104, 116] (by decide)), if_neg (nm [113, 117, 105, 101, 116] (by decide))]
    rw [ew, el, if_neg (by omega)]
theorem wf_s {s : Int} (hs : 0 ≤ s ∧ s < 4) (h0 : 0 ≤ e - w) (hb : ∀ i, 0 ≤ i → i < e - w → 97 ≤ B (w + i) ∧ B (w + i) ≤ 122) : wfl B w e (wsL s) 0 = if fiL s + 1 ≤ wdC B w e ∧ wdC B w e ≤ laL s + 1 then wdC B w e - 1 - fiL s else -1 := by
  have hs' : s = 0 ∨ s = 1 ∨ s = 2 ∨ s = 3 := by omega
  rcases hs' with rfl | rfl | rfl | rfl
  · exact wf_0 h0 hb
  · exact wf_1 h0 hb
  · exact wf_2 h0 hb
  · exact wf_3 h0 hb
/-- the signs of the class's texts -/
def chL (s : Int) : List Int := jn (wsL s)
theorem wl_s {s : Int} (hs : 0 ≤ s ∧ s < 4) (hw : 0 ≤ w ∧ w < n) (hl : lT (B w) = true) : wlF (gl (chL s)) ((chL s).length : Int) B w (tE B n w) ((chL s).length + 1) 0 0 w true = if fiL s + 1 ≤ wdC B w (tE B n w) ∧ wdC B w (tE B n w) ≤ laL s + 1 then wdC B w (tE B n w) - 1 - fiL s else -1 := by
  have hs' : s = 0 ∨ s = 1 ∨ s = 2 ∨ s = 3 := by omega
  have hE := tE_n (B := B) (n := n) (w := w) (by omega)
  have eE : tE B n w = rn (fun j => lT (B j)) n w := by
    unfold tE
    rw [if_neg (by omega), if_pos hl]
  obtain ⟨k1, k2, k3, _⟩ := rn_sp (fun j => lT (B j)) n _ w rfl
  rw [← eE] at k1 k2 k3
  rw [← wf_s hs (by omega) (fun i a b => by
    have := (k3 (w + i) (by omega) (by omega)).2
    unfold lT at this
    rw [decide_eq_true_eq] at this
    exact this)]
  refine wl_all (C := gl (chL s)) (n := ((chL s).length : Int)) (wsL s) 0 0 ?_ (fun j hj => ?_) ?_ ?_
  · rcases hs' with rfl | rfl | rfl | rfl <;> decide
  · unfold gl
    rw [Int.zero_add, Int.toNat_natCast]
    rfl
  · rcases hs' with rfl | rfl | rfl | rfl <;> decide
  · rw [Int.zero_add]
    rfl
end WORDS
