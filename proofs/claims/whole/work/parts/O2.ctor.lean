/-! NEW OBJECTS: constructors of the class's parts -/
def kSt : List rKd := [.inr (0, 9), .inr (0, 9), .inr (0, 9), .inr (0, 9), .inr (0, 9), .inr (0, 9), .inr (0, 9), .inr (0, 9), .inr (0, 9), .inr (0, 9), .inr (0, 9), .inr (0, 64), .inl 7]
def rSt : List (Nat × Nat × Nat) := [(0, 15, 12), (0, 14, 11), (0, 12, 10), (0, 11, 9), (0, 10, 8), (0, 9, 7), (0, 8, 6), (0, 7, 5), (0, 6, 4), (0, 5, 3), (0, 4, 2), (0, 2, 1)]
def kLa : List rKd := [.inr (0, 9), .inl 1]
def rLa : List (Nat × Nat × Nat) := [(0, 5, 1)]
def kRo : List rKd := [.inr (0, 40), .inr (0, 40), .inl 5]
def rRo : List (Nat × Nat × Nat) := [(0, 4, 2), (0, 3, 1)]
def kCa : List rKd := [.inr (0, 8), .inl 0]
def rCa : List (Nat × Nat × Nat) := [(0, 1, 1)]
def kTr : List rKd := [.inr (0, 36), .inr (0, 36), .inr (0, 36), .inr (0, 36), .inl 9]
def rTr : List (Nat × Nat × Nat) := [(0, 6, 4), (0, 5, 3), (0, 4, 2), (0, 3, 1)]
def kDd : List rKd := kCa ++ (kRo ++ (kLa ++ (kSt ++ (kCa ++ (kRo ++ (kLa ++ (kSt ++ [.inr (4, 2), .inr (9, 2), .inr (5, 2), .inr (11, 2), .inr (0, 4), .inr (1, 600), .inl 8])))))))
def rDd : List (Nat × Nat × Nat) := (6, 1, 45) :: (shR 45 rCa ++ ((5, 1, 42) :: (shR 42 rRo ++ ((4, 1, 40) :: (shR 40 rLa ++ ((3, 1, 27) :: (shR 27 rSt ++ ((6, 0, 25) :: (shR 25 rCa ++ ((5, 0, 22) :: (shR 22 rRo ++ ((4, 0, 20) :: (shR 20 rLa ++ ((3, 0, 7) :: (shR 7 rSt ++ [(0, 8, 6), (0, 7, 5), (0, 6, 4), (0, 5, 3), (0, 4, 2), (0, 0, 1)])))))))))))))))
/-- n cells of noughts behind an object -/
def zI (I : Nat → Int → Int) (z : Nat) : Nat → Nat → Int → Int
  | 0 => sA I z Z0
  | n + 1 => sA (zI I z n) (z + (n + 1)) Z0
def cI77 (I : Nat → Int → Int) (z : Nat) : Nat → Int → Int := stC (zI I z 12) z
def cI6 (I : Nat → Int → Int) (z : Nat) : Nat → Int → Int := laC (zI I z 1) z
def cI99a (I : Nat → Int → Int) (z : Nat) : Nat → Int → Int := u3 (sA (sA (sA (sA (u3 (u3 (u3 (sA I z Z0) z 0 0) z 1 0) z 2 0) (z + 1) Z0) (z + 2) Z0) (z + 3) Z0) (z + 4) Z0) z 7 0
def cI99 (I : Nat → Int → Int) (z : Nat) : Nat → Int → Int := sB (cI99a I z) z 5 (clT (rws (cI99a I z) z))
section CTOR
variable {E : (Nat → Value) × (Nat → Nat)} {lo d z n k V m : Nat} {μ : rM} {I : Nat → Int → Int} {L : List rKd} {R : List (Nat × Nat × Nat)} {kd : rKd}
theorem nw_0 (hz : rz μ = z) : nw (mj μ I) kd m = mj (bkl μ z 1 [kd] [] m) (sA I z Z0) := by
  have := nw_bkl (μ := μ) (z := z) (n := 0) (L := []) (R := []) (U := 0) (I := I) (kd := kd) (m := m) rfl
  rw [bkl_0 hz, Nat.zero_add, Nat.zero_add, Nat.add_zero] at this
  exact this
theorem con77 (hd : 3 ≤ d) (hl : lo ≤ z) (hz : rz μ = z) : cl E lo d 77 [.ref z] (nw (mj μ I) (.inl 7) 16) = some (none, mj (bkl μ z 13 kSt rSt 179) (cI77 I z)) := by
  obtain ⟨d, rfl⟩ : ∃ e, d = e + 1 := ⟨d - 1, by omega⟩
  have hS : ShS (bkl μ z 13 kSt rSt 179) (z + 0) := Sh_bkl rfl (by omega) (by decide)
  have h78 := fun X => stc_sp (E := E) (lo := lo) (d := d) (I := X) (by omega) hS (by omega)
  have hO : ∀ X (r : Option rRs), gO (mj (bkl μ z 13 kSt rSt 179) X) (z + 0) 7 r = r := fun X r => gO_k hS.1
  rw [nw_0 hz]
  unfold kSt rSt at h78 hO
  show cl E lo (d + 1) 77 [.ref (z + 0)] _ = _
  simp (disch := first | omega | decide) only [e77, b77_0, b77_12, b77_20, b77_28, b77_36, b77_44, b77_52, b77_60, b77_68, b77_76, b77_84, b77_92, b77_100, b77_104, gP_bkl, nw_bkl, wr_bkl, rz_bkl, Nat.reduceAdd, hO, h78, Option.bind_some, Option.toList_some, Option.toList_none, List.cons_append, List.nil_append]
  rfl
theorem con77m (hl : lo ≤ z) (hk : k = n + 1) (hR : blR n R = true) (hV : 16 ≤ V) (hd : 3 ≤ d) : cl E lo d 77 [.ref (z + n)] (mj (bkl μ z k (.inl 7 :: L) R V) (sA I (z + n) Z0)) = some (none, mj (bkl μ z (n + 13) (kSt ++ L) (shR n rSt ++ R) (V + 163)) (cI77 I (z + n))) := by
  obtain ⟨U, rfl⟩ : ∃ U, V = U + 16 := ⟨V - 16, by omega⟩
  subst hk
  rw [← nw_bkl hR, con77 (z := z + n) hd (by omega) rfl, mg_bkl (L' := kSt) (m := 13) hR rfl]
theorem con6 (hd : 3 ≤ d) (hl : lo ≤ z) (hz : rz μ = z) : cl E lo d 6 [.ref z] (nw (mj μ I) (.inl 1) 6) = some (none, mj (bkl μ z 2 kLa rLa 15) (cI6 I z)) := by
  obtain ⟨d, rfl⟩ : ∃ e, d = e + 1 := ⟨d - 1, by omega⟩
  have hS : ShL (bkl μ z 2 kLa rLa 15) (z + 0) := Sh_bkl rfl (by omega) (by decide)
  have h78 := fun X => lac_sp (E := E) (lo := lo) (d := d) (I := X) (by omega) hS (by omega)
  have hO : ∀ X (r : Option rRs), gO (mj (bkl μ z 2 kLa rLa 15) X) (z + 0) 1 r = r := fun X r => gO_k hS.1
  rw [nw_0 hz]
  unfold kLa rLa at h78 hO
  show cl E lo (d + 1) 6 [.ref (z + 0)] _ = _
  simp (disch := first | omega | decide) only [e6, b6_0, b6_12, b6_16, gP_bkl, nw_bkl, wr_bkl, rz_bkl, Nat.reduceAdd, hO, h78, Option.bind_some, Option.toList_some, Option.toList_none, List.cons_append, List.nil_append]
  rfl
theorem con6m (hl : lo ≤ z) (hk : k = n + 1) (hR : blR n R = true) (hV : 6 ≤ V) (hd : 3 ≤ d) : cl E lo d 6 [.ref (z + n)] (mj (bkl μ z k (.inl 1 :: L) R V) (sA I (z + n) Z0)) = some (none, mj (bkl μ z (n + 2) (kLa ++ L) (shR n rLa ++ R) (V + 9)) (cI6 I (z + n))) := by
  obtain ⟨U, rfl⟩ : ∃ U, V = U + 6 := ⟨V - 6, by omega⟩
  subst hk
  rw [← nw_bkl hR, con6 (z := z + n) hd (by omega) rfl, mg_bkl (L' := kLa) (m := 2) hR rfl]
theorem con58 (hd : 1 ≤ d) (hl : lo ≤ z) (hz : rz μ = z) : cl E lo d 58 [.ref z] (nw (mj μ I) (.inl 5) 5) = some (none, mj (bkl μ z 3 kRo rRo 85) (zI I z 2)) := by
  obtain ⟨d, rfl⟩ : ∃ e, d = e + 1 := ⟨d - 1, by omega⟩
  rw [nw_0 hz]
  show cl E lo (d + 1) 58 [.ref (z + 0)] _ = _
  simp (disch := first | omega | decide) only [e58, b58_0, b58_12, b58_20, gP_bkl, nw_bkl, wr_bkl, rz_bkl, Nat.reduceAdd, Option.bind_some, Option.toList_some, Option.toList_none, List.cons_append, List.nil_append]
  rfl
theorem con58m (hl : lo ≤ z) (hk : k = n + 1) (hR : blR n R = true) (hV : 5 ≤ V) (hd : 1 ≤ d) : cl E lo d 58 [.ref (z + n)] (mj (bkl μ z k (.inl 5 :: L) R V) (sA I (z + n) Z0)) = some (none, mj (bkl μ z (n + 3) (kRo ++ L) (shR n rRo ++ R) (V + 80)) (zI I (z + n) 2)) := by
  obtain ⟨U, rfl⟩ : ∃ U, V = U + 5 := ⟨V - 5, by omega⟩
  subst hk
  rw [← nw_bkl hR, con58 (z := z + n) hd (by omega) rfl, mg_bkl (L' := kRo) (m := 3) hR rfl]
theorem con0 (hd : 1 ≤ d) (hl : lo ≤ z) (hz : rz μ = z) : cl E lo d 0 [.ref z] (nw (mj μ I) (.inl 0) 2) = some (none, mj (bkl μ z 2 kCa rCa 10) (zI I z 1)) := by
  obtain ⟨d, rfl⟩ : ∃ e, d = e + 1 := ⟨d - 1, by omega⟩
  rw [nw_0 hz]
  show cl E lo (d + 1) 0 [.ref (z + 0)] _ = _
  simp (disch := first | omega | decide) only [e0, b0_0, b0_12, gP_bkl, nw_bkl, wr_bkl, rz_bkl, Nat.reduceAdd, Option.bind_some, Option.toList_some, Option.toList_none, List.cons_append, List.nil_append]
  rfl
theorem con0m (hl : lo ≤ z) (hk : k = n + 1) (hR : blR n R = true) (hV : 2 ≤ V) (hd : 1 ≤ d) : cl E lo d 0 [.ref (z + n)] (mj (bkl μ z k (.inl 0 :: L) R V) (sA I (z + n) Z0)) = some (none, mj (bkl μ z (n + 2) (kCa ++ L) (shR n rCa ++ R) (V + 8)) (zI I (z + n) 1)) := by
  obtain ⟨U, rfl⟩ : ∃ U, V = U + 2 := ⟨V - 2, by omega⟩
  subst hk
  rw [← nw_bkl hR, con0 (z := z + n) hd (by omega) rfl, mg_bkl (L' := kCa) (m := 2) hR rfl]
theorem con99 (hd : 3 ≤ d) (hl : lo ≤ z) (hz : rz μ = z) : cl E lo d 99 [.ref z] (nw (mj μ I) (.inl 9) 8) = some (none, mj (bkl μ z 5 kTr rTr 152) (cI99 I z)) := by
  obtain ⟨d, rfl⟩ : ∃ e, d = e + 1 := ⟨d - 1, by omega⟩
  have hT : ShT (bkl μ z 5 kTr rTr 152) (z + 0) := Sh_bkl rfl (by omega) (by decide)
  have h100 : ∀ X, cl E lo d 100 [.ref (z + 0)] (mj (bkl μ z 5 kTr rTr 152) X) = some (none, mj (bkl μ z 5 kTr rTr 152) (sB X (z + 0) 5 (clT (rws X (z + 0))))) := fun X => by
    have := clr_sp (E := E) (lo := lo) (d := d) (I := X) (T := rws X (z + 0)) (by omega) hT (by omega)
    rw [show sB X (z + 0) 5 (rws X (z + 0)) = X from sB_id] at this
    exact this
  have hO : ∀ X (r : Option rRs), gO (mj (bkl μ z 5 kTr rTr 152) X) (z + 0) 9 r = r := fun X r => gO_k hT.1
  rw [nw_0 hz]
  unfold kTr rTr at h100 hO
  show cl E lo (d + 1) 99 [.ref (z + 0)] _ = _
  simp (disch := first | omega | decide) only [e99, b99_0, b99_9, b99_14, b99_19, b99_27, b99_35, b99_43, b99_51, b99_56, b99_60, gP_bkl, nw_bkl, wr_bkl, rz_bkl, Nat.reduceAdd, hO, h100, Jl0, wi_j, Int.cast_ofNat_Int, Int.natCast_zero, Int.natCast_one, Option.bind_some, Option.toList_some, Option.toList_none, List.cons_append, List.nil_append]
  rfl
theorem con99m (hl : lo ≤ z) (hk : k = n + 1) (hR : blR n R = true) (hV : 8 ≤ V) (hd : 3 ≤ d) : cl E lo d 99 [.ref (z + n)] (mj (bkl μ z k (.inl 9 :: L) R V) (sA I (z + n) Z0)) = some (none, mj (bkl μ z (n + 5) (kTr ++ L) (shR n rTr ++ R) (V + 144)) (cI99 I (z + n))) := by
  obtain ⟨U, rfl⟩ : ∃ U, V = U + 8 := ⟨V - 8, by omega⟩
  subst hk
  rw [← nw_bkl hR, con99 (z := z + n) hd (by omega) rfl, mg_bkl (L' := kTr) (m := 5) hR rfl]
/-! what their numbers are -/
theorem zI_n {a : Nat} (h : a < z) : ∀ n, zI I z n a = I a := by
  intro n
  induction n with
  | zero => exact sA_n (by omega)
  | succ n ih =>
    show sA (zI I z n) (z + (n + 1)) Z0 a = I a
    rw [sA_n (by omega), ih]
theorem cI77_n {a : Nat} (h : a < z) : cI77 I z a = I a := by
  unfold cI77 stC
  simp (disch := omega) only [sA_n, u3_c, zI_n h]
theorem cI6_n {a : Nat} (h : a < z) : cI6 I z a = I a := by
  unfold cI6 laC
  simp (disch := omega) only [sA_n, u3_c, zI_n h]
theorem cI99_n {a : Nat} (h : a < z) : cI99 I z a = I a := by
  unfold cI99 cI99a
  rw [sB_n (by omega)]
  simp (disch := omega) only [sA_n, u3_c]
theorem cI6_v : LV (rws (cI6 I z) z) ∧ cI6 I z z 4 = 0 := by
  have f : ∀ j v, laC (zI I z 1) z z j = v ↔ u3 (u3 (u3 (u3 (u3 (zI I z 1) z 0 0) z 1 999) z 2 0) z 3 0) z 4 0 z j = v := fun j v => by
    unfold laC
    rw [sA_n (by omega)]
  have e0 : laC (zI I z 1) z z 0 = 0 := (f _ _).mpr (by simp (disch := omega) only [u3_n, u3_s])
  have e1 : laC (zI I z 1) z z 1 = 999 := (f _ _).mpr (by simp (disch := omega) only [u3_n, u3_s])
  have e2 : laC (zI I z 1) z z 2 = 0 := (f _ _).mpr (by simp (disch := omega) only [u3_n, u3_s])
  have e3 : laC (zI I z 1) z z 3 = 0 := (f _ _).mpr (by simp (disch := omega) only [u3_n, u3_s])
  have e4 : laC (zI I z 1) z z 4 = 0 := (f _ _).mpr (by simp (disch := omega) only [u3_n, u3_s])
  have e5 : ∀ w, 0 ≤ w → w < 9 → laC (zI I z 1) z (z + 1) w = 1 := fun w q1 q2 => by
    unfold laC
    rw [sA_s]
    unfold flr
    rw [if_pos ⟨q1, q2⟩]
  refine ⟨⟨?_, fun w q1 q2 => ?_⟩, e4⟩
  · show 0 ≤ laC (zI I z 1) z z 0 ∧ laC (zI I z 1) z z 0 ≤ 60 ∧ 1 ≤ laC (zI I z 1) z z 1 ∧ laC (zI I z 1) z z 1 ≤ 999 ∧ 0 ≤ laC (zI I z 1) z z 2 ∧ laC (zI I z 1) z z 2 ≤ 99 ∧ 0 ≤ laC (zI I z 1) z z 3 ∧ laC (zI I z 1) z z 3 < 256 ∧ 0 ≤ laC (zI I z 1) z z 4 ∧ laC (zI I z 1) z z 4 ≤ 1
    omega
  · show 0 ≤ laC (zI I z 1) z (z + 1) w ∧ laC (zI I z 1) z (z + 1) w ≤ 9
    have := e5 w q1 q2
    omega
theorem cI99_v : cI99 I z z 7 = 0 ∧ ∀ u, 0 ≤ u → u < 36 → cI99 I z (z + 1) u = -1 ∧ cI99 I z (z + 2) u = -1 ∧ cI99 I z (z + 3) u = 0 := by
  unfold cI99
  refine ⟨?_, fun u q1 q2 => ⟨?_, ?_, ?_⟩⟩
  · rw [sB_0 (by omega)]
    unfold clT
    simp (disch := omega) only [sA_n, u3_s]
  · rw [sB_c (by omega)]
    unfold clT
    simp (disch := omega) only [sA_n, sA_s]
    unfold flr
    rw [if_pos ⟨q1, q2⟩]
  · rw [sB_c (by omega)]
    unfold clT
    simp (disch := omega) only [sA_n, sA_s]
    unfold flr
    rw [if_pos ⟨q1, q2⟩]
  · rw [sB_c (by omega)]
    unfold clT
    simp (disch := omega) only [sA_n, sA_s]
    unfold flr
    rw [if_pos ⟨q1, q2⟩]
end CTOR
