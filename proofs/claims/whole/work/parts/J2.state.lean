/-! THE REFERENCE'S READER, good or wrong -/
def OKs (B : Int → Int) (n : Int) (M : Nat → Int → Int) (w : Int) (q : Int × Int) : Prop := RJn M ∧ OKb B n M w ∧ M 0 8 = 0 ∧ M 1 5 = q.1 ∧ M 1 6 = q.2 ∧ (q.1 ≠ 0 → q.2 < w)
def WRs (M : Nat → Int → Int) (g : Int) : Prop := RJn M ∧ M 0 8 = 1 ∧ M 1 5 = 1 ∧ M 1 6 = g
/-- the first wrong token, of k numbers from w on and a semicolon -/
def lnW (B : Int → Int) (n : Int) : Nat → Int → Option Int
  | 0, w => if tT B n w = 2 then none else some w
  | k + 1, w => if tT B n w = 1 then lnW B n k (nx B n w) else some w
def enW (B : Int → Int) (n : Int) : Nat → Int → Int
  | 0, w => nx B n w
  | k + 1, w => enW B n k (nx B n w)
/-- k numbers and a semicolon are yet to come, from w on; or a wrong one has come -/
def Inn (B : Int → Int) (n : Int) (T : Option Int) (M : Nat → Int → Int) (k : Nat) (w : Int) (q : Int × Int) : Prop := (OKs B n M w q ∧ lnW B n k w = T) ∨ ∃ p, WRs M p ∧ T = some p
def nq (B : Int → Int) (n : Int) (q : Int × Int) (x y w : Int) : Int × Int := if q.1 = 0 ∧ ¬ (x ≤ nv B n w ∧ nv B n w ≤ y) then (2, w) else q
def aq (B : Int → Int) (n : Int) (q : Int × Int) (a x y w : Int) : Int × Int := if q.1 = 0 ∧ ¬ (x ≤ nv B n w ∧ nv B n w ≤ y ∧ ¬ nv B n w = a) then (2, w) else q
theorem RJn_c {M M' : Nat → Int → Int} (h0 : M' 0 = M 0) (h1 : M' 1 = M 1) (h : RJn M) : RJn M' := by
  unfold RJn RIn tpB at *
  rw [h0, h1]
  exact h
theorem RJn_adv {M : Nat → Int → Int} (h : RJn M) : RJn (advM M) := ⟨RIn_adv h.1, by rw [advM_f.1 9 (by omega)]; exact h.2.1, by rw [advM_f.1 10 (by omega)]; exact h.2.2⟩
theorem RJn_ends {M : Nat → Int → Int} (h : RJn M) : RJn (endsM M) := ⟨RIn_ends h.1, by rw [endsM_f.1 9 (by omega)]; exact h.2.1, by rw [endsM_f.1 10 (by omega)]; exact h.2.2⟩
theorem RJn_u9 {M : Nat → Int → Int} {x v : Int} (hx : x = 9 ∨ x = 10) (hv : i32 v) (h : RJn M) : RJn (u3 M 0 x v) := by
  refine ⟨RIn_u h.1 (by omega), ?_, ?_⟩
  · by_cases c : x = 9
    · rw [c, u3_s]; exact hv
    · rw [u3_n (by omega)]; exact h.2.1
  · by_cases c : x = 10
    · rw [c, u3_s]; exact hv
    · rw [u3_n (by omega)]; exact h.2.2
theorem endsM_1 {M : Nat → Int → Int} (h : M 0 8 = 1) : endsM M = M := if_neg (by omega)
theorem endsM_0 {M : Nat → Int → Int} {w : Int} (hJ : RJn M) (h : M 0 8 = 0) (h4 : M 0 4 = w) : WRs (endsM M) w := by
  refine ⟨RJn_ends hJ, ?_, ?_, ?_⟩
  · unfold endsM
    rw [if_pos h, u3_n (by omega), u3_n (by omega), u3_s]
  · unfold endsM
    rw [if_pos h, u3_n (by omega), u3_s]
  · unfold endsM
    rw [if_pos h, u3_s, h4]
theorem alsoM_1 {M : Nat → Int → Int} {k p : Int} (h : M 0 8 = 1) : alsoM M k p = M := if_neg (by omega)
theorem also_q {M : Nat → Int → Int} {k p : Int} {q : Int × Int} (h8 : M 0 8 = 0) (h5 : M 1 5 = q.1) (h6 : M 1 6 = q.2) (hg : q.1 ≠ 0 → q.2 < p) : alsoM M k p = if q.1 = 0 then u3 (u3 M 1 5 k) 1 6 p else M := by
  unfold alsoM
  rw [h8, h5, h6]
  by_cases c : q.1 = 0
  · rw [if_pos ⟨rfl, Or.inl c⟩, if_pos c]
  · have := hg c
    rw [if_neg (by omega), if_neg c]
section STATES
variable {B : Int → Int} {n w x y a p v : Int} {M : Nat → Int → Int} {q : Int × Int} {T : Option Int} {k : Nat}
theorem nm_1 (h : M 0 8 = 1) : nmM M x y = M := by
  unfold nmM
  rw [if_neg (by omega), endsM_1 h]
theorem agn_1 (h : M 0 8 = 1) : agnM M a = M := if_neg (by omega)
theorem OKs_adv (h : OKs B n M w q) : OKs B n (advM M) (nx B n w) q := by
  obtain ⟨hJ, hb, h8, h5, h6, hg⟩ := h
  have := nx_n (B := B) hb.2.1
  exact ⟨RJn_adv hJ, adv_b hb, by rw [advM_f.1 8 (by omega)]; exact h8, by rw [advM_f.2.1 1 (by decide)]; exact h5, by rw [advM_f.2.1 1 (by decide)]; exact h6, fun z => by have := hg z; omega⟩
theorem OKs_nm (h : OKs B n M w q) (t : tT B n w = 1) : OKs B n (nmM M x y) (nx B n w) (nq B n q x y w) := by
  have h' := h
  obtain ⟨hJ, hb, h8, h5, h6, hg⟩ := h
  have hb' := hb
  obtain ⟨_, hw, _, b4, b5, b6, _⟩ := hb'
  have e6 := b6 t
  have hn := nx_n (B := B) hw
  have tn := (tT_1 t).1
  unfold nmM nq
  rw [if_pos ⟨h8, b5.trans t⟩, e6, b4]
  by_cases c : x ≤ nv B n w ∧ nv B n w ≤ y
  · rw [if_pos c, if_neg (fun z => z.2 c)]
    exact OKs_adv h'
  · rw [if_neg c, also_q h8 h5 h6 hg]
    by_cases c0 : q.1 = 0
    · rw [if_pos c0, if_pos ⟨c0, c⟩]
      have hb2 : OKb B n (u3 (u3 M 1 5 2) 1 6 w) w := OKb_u hb (fun j _ _ => by rw [u3_c (by decide), u3_c (by decide)]) (fun j _ => by rw [u3_n (by omega), u3_n (by omega)])
      have hJ2 : RJn (u3 (u3 M 1 5 2) 1 6 w) := by
        have := RJn_also (k := 2) (p := w) hJ ⟨by unfold i32; omega, by have := hJ.1.2.2.2.1; unfold i32; omega⟩
        rw [also_q h8 h5 h6 hg, if_pos c0] at this
        exact this
      exact ⟨RJn_adv hJ2, adv_b hb2, by rw [advM_f.1 8 (by omega), u3_c (by decide), u3_c (by decide)]; exact h8, by rw [advM_f.2.1 1 (by decide), u3_n (by omega), u3_s], by rw [advM_f.2.1 1 (by decide), u3_s], fun _ => hn.2.2 tn⟩
    · rw [if_neg c0, if_neg (fun z => c0 z.1)]
      exact OKs_adv h'
theorem OKs_agn (h : OKs B n M w q) (t : tT B n w = 1) : OKs B n (nmM (agnM M a) x y) (nx B n w) (aq B n q a x y w) := by
  have h' := h
  obtain ⟨hJ, hb, h8, h5, h6, hg⟩ := h
  have hb' := hb
  obtain ⟨_, hw, _, b4, b5, b6, _⟩ := hb'
  have e6 := b6 t
  have hn := nx_n (B := B) hw
  have tn := (tT_1 t).1
  by_cases ce : nv B n w = a ∧ q.1 = 0
  · have eA : agnM M a = u3 (u3 M 1 5 2) 1 6 w := by
      unfold agnM
      rw [if_pos ⟨h8, b5.trans t, e6.trans ce.1⟩, b4, also_q h8 h5 h6 hg, if_pos ce.2]
    have hb2 : OKb B n (u3 (u3 M 1 5 2) 1 6 w) w := OKb_u hb (fun j _ _ => by rw [u3_c (by decide), u3_c (by decide)]) (fun j _ => by rw [u3_n (by omega), u3_n (by omega)])
    have hJ2 : RJn (u3 (u3 M 1 5 2) 1 6 w) := by
      have := RJn_agn (a := a) hJ
      rw [eA] at this
      exact this
    have eN : nmM (agnM M a) x y = advM (u3 (u3 M 1 5 2) 1 6 w) := by
      rw [eA]
      unfold nmM
      have f0 : u3 (u3 M 1 5 2) 1 6 w 0 = M 0 := by rw [u3_c (by decide), u3_c (by decide)]
      have f5 : u3 (u3 M 1 5 2) 1 6 w 1 5 = 2 := by rw [u3_n (by omega), u3_s]
      have f6 : u3 (u3 M 1 5 2) 1 6 w 1 6 = w := u3_s
      rw [f0, if_pos ⟨h8, b5.trans t⟩]
      split
      · rfl
      · unfold alsoM
        rw [f0, f5, f6, b4, if_neg (by omega)]
    rw [eN]
    unfold aq
    rw [if_pos ⟨ce.2, fun z => z.2.2 ce.1⟩]
    exact ⟨RJn_adv hJ2, adv_b hb2, by rw [advM_f.1 8 (by omega), u3_c (by decide), u3_c (by decide)]; exact h8, by rw [advM_f.2.1 1 (by decide), u3_n (by omega), u3_s], by rw [advM_f.2.1 1 (by decide), u3_s], fun _ => hn.2.2 tn⟩
  · have eA : agnM M a = M := by
      unfold agnM
      by_cases c : M 0 8 = 0 ∧ M 0 5 = 1 ∧ M 0 6 = a
      · rw [if_pos c, b4, also_q h8 h5 h6 hg, if_neg (fun z => ce ⟨by rw [← e6]; exact c.2.2, z⟩)]
      · rw [if_neg c]
    have eQ : aq B n q a x y w = nq B n q x y w := by
      unfold aq nq
      by_cases c0 : q.1 = 0
      · have nA : ¬ nv B n w = a := fun z => ce ⟨z, c0⟩
        by_cases c : x ≤ nv B n w ∧ nv B n w ≤ y
        · rw [if_neg (fun z => z.2 ⟨c.1, c.2, nA⟩), if_neg (fun z => z.2 c)]
        · rw [if_pos ⟨c0, fun z => c ⟨z.1, z.2.1⟩⟩, if_pos ⟨c0, c⟩]
      · rw [if_neg (fun z => c0 z.1), if_neg (fun z => c0 z.1)]
    rw [eA, eQ]
    exact OKs_nm h' t
theorem Inn_nm (h : Inn B n T M (k + 1) w q) : Inn B n T (nmM M x y) k (nx B n w) (nq B n q x y w) := by
  rcases h with ⟨h1, h2⟩ | ⟨p, h1, h2⟩
  · by_cases t : tT B n w = 1
    · exact Or.inl ⟨OKs_nm h1 t, by rw [← h2]; exact (if_pos t).symm⟩
    · refine Or.inr ⟨w, ?_, by rw [← h2]; exact if_neg t⟩
      unfold nmM
      rw [if_neg (fun z => t (by rw [← h1.2.1.2.2.2.2.1]; exact z.2))]
      exact endsM_0 h1.1 h1.2.2.1 h1.2.1.2.2.2.1
  · exact Or.inr ⟨p, by rw [nm_1 h1.2.1]; exact h1, h2⟩
theorem Inn_an (h : Inn B n T M (k + 1) w q) : Inn B n T (nmM (agnM M a) x y) k (nx B n w) (aq B n q a x y w) := by
  rcases h with ⟨h1, h2⟩ | ⟨p, h1, h2⟩
  · by_cases t : tT B n w = 1
    · exact Or.inl ⟨OKs_agn h1 t, by rw [← h2]; exact (if_pos t).symm⟩
    · refine Or.inr ⟨w, ?_, by rw [← h2]; exact if_neg t⟩
      have t5 : ¬ M 0 5 = 1 := fun z => t (by rw [← h1.2.1.2.2.2.2.1]; exact z)
      have eA : agnM M a = M := if_neg (fun z => t5 z.2.1)
      unfold nmM
      rw [eA, if_neg (fun z => t5 z.2)]
      exact endsM_0 h1.1 h1.2.2.1 h1.2.1.2.2.2.1
  · exact Or.inr ⟨p, by rw [agn_1 h1.2.1, nm_1 h1.2.1]; exact h1, h2⟩
theorem Inn_c {M' : Nat → Int → Int} (hJ : RJn M → RJn M') (h0 : ∀ j, 2 ≤ j → j ≤ 8 → M' 0 j = M 0 j) (h1 : M' 1 = M 1) (h : Inn B n T M k w q) : Inn B n T M' k w q := by
  rcases h with ⟨⟨g1, g2, g3, g4, g5, g6⟩, h2⟩ | ⟨p, ⟨g1, g2, g3, g4⟩, h2⟩
  · exact Or.inl ⟨⟨hJ g1, OKb_u g2 (fun j a b => h0 j a (by omega)) (fun j _ => by rw [h1]), by rw [h0 8 (by omega) (by omega)]; exact g3, by rw [h1]; exact g4, by rw [h1]; exact g5, g6⟩, h2⟩
  · exact Or.inr ⟨p, ⟨hJ g1, by rw [h0 8 (by omega) (by omega)]; exact g2, by rw [h1]; exact g3, by rw [h1]; exact g4⟩, h2⟩
theorem Inn_u9 (hx : x = 9 ∨ x = 10) (hv : i32 v) (h : Inn B n T M k w q) : Inn B n T (u3 M 0 x v) k w q := Inn_c (RJn_u9 hx hv) (fun j _ _ => u3_n (by omega)) (u3_c (by decide)) h
theorem Inn_r {c : Nat} (hc : 2 ≤ c) (h : Inn B n T M k w q) : Inn B n T (u3 M c x v) k w q := Inn_c (RJn_c (u3_c (by omega)) (u3_c (by omega))) (fun j _ _ => by rw [u3_c (by omega)]) (u3_c (by omega)) h
theorem Inn_J (h : Inn B n T M k w q) : RJn M := by
  rcases h with ⟨h1, _⟩ | ⟨p, h1, _⟩
  · exact h1.1
  · exact h1.1
theorem Inn_ht (h : Inn B n T M (k + 1) w q) : Inn B n T (htM M) k (nx B n w) (nq B n q 0 7 w) := by
  have hb := nmV_b (M := M) (x := 0) (y := 7) (by omega)
  have h9 := (Inn_J h).2.1
  unfold htM
  refine Inn_u9 (Or.inl rfl) ?_ (Inn_nm h)
  split
  · exact h9
  · unfold i32; omega
theorem Inn_st (h : Inn B n T M (k + 1) w q) : Inn B n T (stM M) k (nx B n w) (nq B n q 0 8 w) := by
  have hb := nmV_b (M := M) (x := 0) (y := 8) (by omega)
  have h9 := (Inn_J h).2.2
  unfold stM
  refine Inn_u9 (Or.inr rfl) ?_ (Inn_nm h)
  split
  · exact h9
  · unfold i32; omega
theorem Inn_aht (h : Inn B n T M (k + 1) w q) : Inn B n T (htM (agnM M a)) k (nx B n w) (aq B n q a 0 7 w) := by
  have hb := nmV_b (M := agnM M a) (x := 0) (y := 7) (by omega)
  have h9 := (RJn_agn (a := a) (Inn_J h)).2.1
  unfold htM
  refine Inn_u9 (Or.inl rfl) ?_ (Inn_an h)
  split
  · exact h9
  · unfold i32; omega
theorem Inn_ast (h : Inn B n T M (k + 1) w q) : Inn B n T (stM (agnM M a)) k (nx B n w) (aq B n q a 0 8 w) := by
  have hb := nmV_b (M := agnM M a) (x := 0) (y := 8) (by omega)
  have h9 := (RJn_agn (a := a) (Inn_J h)).2.2
  unfold stM
  refine Inn_u9 (Or.inr rfl) ?_ (Inn_an h)
  split
  · exact h9
  · unfold i32; omega
/-- no room: kind 3 at p -/
def fq (q : Int × Int) (full : Bool) (p : Int) : Int × Int := if q.1 = 0 ∧ full = true then (3, p) else q
theorem Inn_ful {full : Bool} (hp : i32 p) (hg : q.1 ≠ 0 → q.2 < p) (hw : p < w) (h : Inn B n T M k w q) : Inn B n T (fulM M full p) k w (fq q full p) := by
  unfold fulM fq
  cases full with
  | false => rw [if_neg (by decide), if_neg (by simp)]; exact h
  | true =>
    rw [if_pos rfl]
    rcases h with ⟨⟨hJ, hb, h8, h5, h6, hg'⟩, h2⟩ | ⟨p', h1, h2⟩
    · have hJ2 := RJn_also (k := 3) (p := p) hJ ⟨by unfold i32; omega, hp⟩
      have hJ3 := hJ
      rw [also_q h8 h5 h6 hg] at hJ2 ⊢
      by_cases c : q.1 = 0
      · rw [if_pos c] at hJ2 ⊢
        rw [if_pos ⟨c, rfl⟩]
        exact Or.inl ⟨⟨hJ2, OKb_u hb (fun j _ _ => by rw [u3_c (by decide), u3_c (by decide)]) (fun j _ => by rw [u3_n (by omega), u3_n (by omega)]), by rw [u3_c (by decide), u3_c (by decide)]; exact h8, by rw [u3_n (by omega), u3_s], u3_s, fun _ => hw⟩, h2⟩
      · rw [if_neg c, if_neg (fun z => c z.1)]
        exact Or.inl ⟨⟨hJ3, hb, h8, h5, h6, hg'⟩, h2⟩
    · rw [alsoM_1 h1.2.1]
      exact Or.inr ⟨p', h1, h2⟩
/-- what a number is, where all goes well -/
theorem Inn_v (h : Inn B n T M (k + 1) w q) (hT : T = none) (hq : q.1 = 0) (h0 : (nq B n q x y w).1 = 0) : nmV M x y = nv B n w ∧ x ≤ nv B n w ∧ nv B n w ≤ y := by
  rcases h with ⟨h1, h2⟩ | ⟨p, h1, h2⟩
  · by_cases t : tT B n w = 1
    · have c : x ≤ nv B n w ∧ nv B n w ≤ y := by
        by_cases c : x ≤ nv B n w ∧ nv B n w ≤ y
        · exact c
        · exfalso
          unfold nq at h0
          rw [if_pos ⟨hq, c⟩] at h0
          exact absurd h0 (by simp)
      refine ⟨?_, c⟩
      unfold nmV
      rw [h1.2.1.2.2.2.2.2.1 t, if_pos ⟨⟨h1.2.2.1, by rw [h1.2.1.2.2.2.2.1]; exact t⟩, c⟩]
    · rw [hT] at h2
      exact absurd ((if_neg t).symm.trans h2) (by simp)
  · rw [hT] at h2
    exact absurd h2 (by simp)
theorem agn_0 : agnM M a 0 = M 0 := by
  unfold agnM
  split
  · exact alsoM_f.1
  · rfl
theorem Inn_av (h : Inn B n T M (k + 1) w q) (hT : T = none) (hq : q.1 = 0) (h0 : (aq B n q a x y w).1 = 0) : nmV (agnM M a) x y = nv B n w ∧ x ≤ nv B n w ∧ nv B n w ≤ y ∧ ¬ nv B n w = a := by
  have c : x ≤ nv B n w ∧ nv B n w ≤ y ∧ ¬ nv B n w = a := by
    by_cases c : x ≤ nv B n w ∧ nv B n w ≤ y ∧ ¬ nv B n w = a
    · exact c
    · exfalso
      unfold aq at h0
      rw [if_pos ⟨hq, c⟩] at h0
      exact absurd h0 (by simp)
  have e : nmV (agnM M a) x y = nmV M x y := by unfold nmV; rw [agn_0]
  rw [e]
  refine ⟨(Inn_v (x := x) (y := y) h hT hq ?_).1, c⟩
  unfold nq
  rw [if_neg (fun z => z.2 ⟨c.1, c.2.1⟩)]
  exact hq
theorem Inn_el (h : Inn B n T M 0 w q) : (T = none → OKs B n (elM M) (nx B n w) q) ∧ ∀ p, T = some p → WRs (elM M) p := by
  unfold elM
  rcases h with ⟨h1, h2⟩ | ⟨p, h1, h2⟩
  · have h5 := h1.2.1.2.2.2.2.1
    by_cases t : tT B n w = 2
    · have e : T = none := by rw [← h2]; exact if_pos t
      rw [if_pos ⟨h1.2.2.1, h5.trans t⟩]
      exact ⟨fun _ => OKs_adv h1, fun p hp => by rw [e] at hp; exact absurd hp (by simp)⟩
    · have e : T = some w := by rw [← h2]; exact if_neg t
      rw [if_neg (fun z => t (by rw [← h5]; exact z.2))]
      refine ⟨fun hp => by rw [e] at hp; exact absurd hp (by simp), fun p hp => ?_⟩
      rw [e] at hp
      injection hp with hp
      rw [← hp]
      exact endsM_0 h1.1 h1.2.2.1 h1.2.1.2.2.2.1
  · rw [if_neg (by have := h1.2.1; omega), endsM_1 h1.2.1]
    refine ⟨fun hp => by rw [h2] at hp; exact absurd hp (by simp), fun p' hp => ?_⟩
    rw [h2] at hp
    injection hp with hp
    rw [← hp]
    exact h1
theorem OKs_tk (h : OKs B n M w q) (c : tT B n w = 3 ∧ x ≤ wdC B w (tE B n w) ∧ wdC B w (tE B n w) ≤ y) : OKs B n (tkM M x y) (nx B n w) q ∧ tkV M x y = wdC B w (tE B n w) := by
  have e7 := h.2.1.2.2.2.2.2.2 c.1
  have c' : (M 0 8 = 0 ∧ M 0 5 = 3) ∧ x ≤ M 0 7 ∧ M 0 7 ≤ y := ⟨⟨h.2.2.1, h.2.1.2.2.2.2.1.trans c.1⟩, by rw [e7]; exact c.2⟩
  unfold tkM tkV
  rw [if_pos c', if_pos c']
  exact ⟨OKs_adv h, e7⟩
theorem OKs_tx (h : OKs B n M w q) (c : ¬ (tT B n w = 3 ∧ x ≤ wdC B w (tE B n w) ∧ wdC B w (tE B n w) ≤ y)) : WRs (tkM M x y) w ∧ tkV M x y = 0 := by
  have c' : ¬ ((M 0 8 = 0 ∧ M 0 5 = 3) ∧ x ≤ M 0 7 ∧ M 0 7 ≤ y) := fun z => c (by
    have t : tT B n w = 3 := by rw [← h.2.1.2.2.2.2.1]; exact z.1.2
    refine ⟨t, ?_⟩
    rw [← h.2.1.2.2.2.2.2.2 t]
    exact z.2)
  unfold tkM tkV
  rw [if_neg c', if_neg c']
  exact ⟨endsM_0 h.1 h.2.2.1 h.2.1.2.2.2.1, rfl⟩
theorem WRs_el {g : Int} (h : WRs M g) : WRs (elM M) g := by
  unfold elM
  rw [if_neg (by have := h.2.1; omega), endsM_1 h.2.1]
  exact h
theorem WRs_c {M' : Nat → Int → Int} {g : Int} (h : WRs M g) (h0 : M' 0 = M 0) (h1 : M' 1 = M 1) : WRs M' g := ⟨RJn_c h0 h1 h.1, by rw [h0]; exact h.2.1, by rw [h1]; exact h.2.2.1, by rw [h1]; exact h.2.2.2⟩
end STATES
