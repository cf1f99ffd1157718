/-! the program's tables are as they must be (rOK) -/
def aTs : List Nat := [0, 1, 2, 3] ++ aokL.map (· + 4)
def staLs : List Nat := List.range 7
def strLs : List Nat := List.range 4
theorem mRow_or (k : Nat) : (∃ g ∈ mGrp, mRow k ∈ g) ∨ mRow k = row0 := by
  unfold mRow
  rcases getD_mem (mGrp.getD (k / 24) []) (k % 24) row0 with h | h
  · rcases getD_mem mGrp (k / 24) [] with h2 | h2
    · exact Or.inl ⟨_, h2, h⟩
    · rw [h2] at h
      exact absurd h List.not_mem_nil
  · exact Or.inr h
theorem mRow_chk (k : Nat) : chkI (mRow k).2.1 (mRow k).2.2.2.2.2.2 = true := by
  rcases mRow_or k with ⟨g, hg, h⟩ | h
  · exact mOs g hg _ h
  · rw [h]; rfl
def chkR (q : rRow) : Bool := decide (q.1.cls = cnm q.2.2.2.2.1) && (!(Nat.beq q.2.2.2.2.2.1 2) || decide (q.1.name = "<init>"))
theorem chkRs : ∀ g ∈ mGrp, ∀ q ∈ g, chkR q = true := by
  have h : (mGrp.all fun g => g.all chkR) = true := by decide +kernel
  intro g hg q hq
  exact List.all_eq_true.mp (List.all_eq_true.mp h g hg) q hq
theorem chkRk (k : Nat) : chkR (mRow k) = true := by
  rcases mRow_or k with ⟨g, hg, h⟩ | h
  · exact chkRs g hg _ h
  · rw [h]; decide +kernel
theorem nam_cls (k : Nat) : (nam k).cls = cnm (mcl k) := by
  have h := chkRk k
  unfold chkR at h
  simp only [Bool.and_eq_true, decide_eq_true_eq] at h
  exact h.1
theorem nam_init {k : Nat} (h2 : mkd k = 2) : (nam k).name = "<init>" := by
  have h := chkRk k
  unfold chkR at h
  simp only [Bool.and_eq_true] at h
  have h3 := h.2
  have h4 : (mRow k).2.2.2.2.2.1 = 2 := h2
  rw [h4] at h3
  have h5 : (mRow k).1.name = "<init>" := by simpa using h3
  exact h5
theorem ent_lt {α : Type} {L : List (List α)} {c : Nat} {e : α} (h : e ∈ L.getD c []) : c < L.length ∧ L.getD c [] ∈ L := by
  rw [List.getD_eq_getElem?_getD] at h ⊢
  cases hc : L[c]? with
  | none => rw [hc] at h; exact absurd h List.not_mem_nil
  | some l => exact ⟨(List.getElem?_eq_some_iff.mp hc).1, List.mem_of_getElem? hc⟩
theorem ent_chk {α : Type} {L : List (List α)} {p : α → Bool} (hL : (L.all fun l => l.all p) = true) {c : Nat} {e : α} (h : e ∈ L.getD c []) : p e = true := List.all_eq_true.mp (List.all_eq_true.mp hL _ (ent_lt h).2) e h
theorem Ws_mem {w : Cond} (h : w ∈ wFld ∨ w ∈ wPut ∨ w ∈ wCal ∨ w ∈ wMet ∨ w ∈ wCod ∨ w ∈ wCls ∨ w ∈ wNew ∨ w ∈ wCon ∨ w ∈ wCo2 ∨ w ∈ wSta ∨ w ∈ wMis) : w ∈ Ws := by
  unfold Ws
  simp only [List.mem_append]
  exact h
theorem rcl_at (c : Nat) (hc : c < 13) : ∃ q : vw_C, rcl[c]? = some q ∧ q.2.2 = nfls.getD c 0 ∧ q.1 = cnm c ∧ c ≠ strC ∧ (∀ f, TFs c f = q.2.1 f) := by
  have h : c = 0 ∨ c = 1 ∨ c = 2 ∨ c = 3 ∨ c = 4 ∨ c = 5 ∨ c = 6 ∨ c = 7 ∨ c = 8 ∨ c = 9 ∨ c = 10 ∨ c = 11 ∨ c = 12 := by omega
  rcases h with rfl | rfl | rfl | rfl | rfl | rfl | rfl | rfl | rfl | rfl | rfl | rfl | rfl <;> exact ⟨_, rfl, rfl, rfl, by decide, fun _ => rfl⟩
def chkF (e : Nat × Nat × Nat) : Bool := (decide (e.2.1 < 13) && decide (e.2.2 < nfls.getD e.2.1 0)) || (Nat.beq e.2.1 13 && (Nat.beq e.2.2 0 || Nat.beq e.2.2 1))
theorem fld_chk : (fldL.all fun l => l.all chkF) = true := by decide +kernel
def chkN (e : Nat × Nat × Nat) : Bool := decide (e.2.1 < 13) && decide (e.2.2 < nfls.getD e.2.1 0) && !(TFs e.2.1 e.2.2).2.2.2
theorem putN_chk : (putN.all fun l => l.all chkN) = true := by decide +kernel
theorem putL_chk : ∀ c, c < 21 → ((putL.getD c []).all fun e => decide (e.2.1 < 13) && decide (e.2.2 < nfls.getD e.2.1 0) && (!(TFs e.2.1 e.2.2).2.2.2 || decide ((TFs e.2.1 e.2.2).1 = cnm c))) = true := by decide +kernel
def mLen : List Nat := [24, 24, 24, 24, 24, 24, 24, 24, 24, 24, 24, 24, 5, 1]
theorem mLen_eq : mGrp.map List.length = mLen := rfl
theorem j_lt : ∀ j, j < 293 → j / 24 < 13 ∧ j % 24 < mLen.getD (j / 24) 0 := by decide +kernel
theorem row_in {j : Nat} (hj : j < 293) : ∃ g ∈ mGrp.take 13, mRow j ∈ g := by
  obtain ⟨h1, h2⟩ := j_lt j hj
  have hl : mGrp.length = 14 := rfl
  have h3 : j / 24 < mGrp.length := by rw [hl]; omega
  refine ⟨mGrp[j / 24], ?_, ?_⟩
  · have : (mGrp.take 13)[j / 24]? = some mGrp[j / 24] := by
      rw [List.getElem?_take, if_pos h1, List.getElem?_eq_getElem h3]
    exact List.mem_of_getElem? this
  · have e1 : mGrp.getD (j / 24) [] = mGrp[j / 24] := by rw [List.getD_eq_getElem?_getD, List.getElem?_eq_getElem h3]; rfl
    have h4 : j % 24 < mGrp[j / 24].length := by
      have e2 : mLen.getD (j / 24) 0 = mGrp[j / 24].length := by
        rw [← mLen_eq, List.getD_eq_getElem?_getD, List.getElem?_map, List.getElem?_eq_getElem h3]; rfl
      rw [← e2]; exact h2
    unfold mRow
    rw [e1, List.getD_eq_getElem?_getD, List.getElem?_eq_getElem h4]
    exact List.getElem_mem h4
def chkC (e : Nat × Nat × Nat × Nat) : Bool := (Nat.ble 4 e.2.2.2 && !(Nat.beq e.2.2.2 8)) || (decide (e.2.1 < 293) && decide ((nam e.2.1).cls ≠ "java/lang/invoke/MethodHandle") && decide ((nam e.2.1).cls ≠ "java/lang/invoke/VarHandle") && decide ((parseMethodDescriptor (nam e.2.1).desc).map (fun d => d.parameters.length) = some e.2.2.1) && decide (pMxl PG e.2.1 ≤ 40) && plainName (nam e.2.1).cls && (match e.2.2.2 with
  | 0 => Nat.beq (mkd e.2.1) 0 && Nat.ble (mcl e.2.1) 12
  | 8 => Nat.beq (mkd e.2.1) 0 && Nat.beq (mcl e.2.1) 13
  | 1 => Nat.beq (mkd e.2.1) 1
  | _ => Nat.beq (mkd e.2.1) 2 && (pRet PG e.2.1).isNone))
theorem cal_chk : (calL.all fun l => l.all chkC) = true := by decide +kernel
theorem nest_chk : ∀ c, c < 21 → ((calL.getD c []).all fun e => !(Nat.beq e.2.2.2 3) || decide ((cnm c, e.1, nam e.2.1, "FathomNight") ∈ nests)) = true := by decide +kernel
theorem anw_chk : (anwL.all fun l => l.all fun e => decide (e.2 ∈ aokL)) = true := by decide +kernel
theorem new_chk : (newL.all fun l => l.all fun e => decide (e.2 < 13)) = true := by decide +kernel
theorem sta_chk : (staL0.all fun l => l.all fun e => decide (e.2 ∈ staLs)) = true := by decide +kernel
theorem str_chk : ∀ c, c < 21 → ((strL0.getD c []).all fun e => decide (e.2 ∈ strLs) && decide ((sTs e.2).1 = cnm c) && decide ((sTs e.2).2.1 = e.1)) = true := by decide +kernel
theorem aok_chk : ∀ t ∈ aokL, t + 4 ∈ aTs ∧ t ≠ strC := by decide +kernel
theorem fm {β : Type} {L : List (List β)} {f : Nat → β → Cond} {c : Nat} (hc : c < 21) {e : β} (h : e ∈ L.getD c []) : f c e ∈ (List.range 21).flatMap fun c => (L.getD c []).map (f c) := List.mem_flatMap.mpr ⟨c, List.mem_range.mpr hc, List.mem_map.mpr ⟨e, h, rfl⟩⟩
theorem cal_ok {k idx j n m : Nat} (h : pCal PG k idx = some (j, n, m)) (hm : m < 4 ∨ m = 8) : callOK PG Ws cod nam j n ∧ (m ≠ 3 → Cond.methodLink (nam k).cls idx (nam j) ∈ Ws) ∧ (m = 0 → mkd j = 0 ∧ mcl j ≤ 12) ∧ (m = 1 → mkd j = 1) ∧ (2 ≤ m → m < 4 → mkd j = 2 ∧ pRet PG j = none) ∧ (m = 8 → mkd j = 0 ∧ mcl j = 13) ∧ (∀ w ∈ wM (mRow j), w ∈ Ws) := by
  have he : (idx, (j, n, m)) ∈ calL.getD (mcl k) [] := lkp_mem h
  have hc := ent_chk cal_chk he
  obtain ⟨hlt, -⟩ := ent_lt he
  have hlt : mcl k < 21 := hlt
  unfold chkC at hc
  have h4 : (Nat.ble 4 m && !(Nat.beq m 8)) = false := by
    rcases hm with hm | rfl
    · cases hb : Nat.ble 4 m with
      | false => rfl
      | true => exact absurd (Nat.le_of_ble_eq_true hb) (by omega)
    · rfl
  dsimp only at hc
  rw [h4, Bool.false_or] at hc
  simp only [Bool.and_eq_true, decide_eq_true_eq] at hc
  obtain ⟨⟨⟨⟨⟨⟨c1, c2⟩, c3⟩, c4⟩, c5⟩, c6⟩, c7⟩ := hc
  obtain ⟨g, hg, hr⟩ := row_in c1
  have hMet : ∀ w ∈ wM (mRow j), w ∈ Ws := fun w hw => Ws_mem (Or.inr (Or.inr (Or.inr (Or.inl (List.mem_flatMap.mpr ⟨g, hg, List.mem_flatMap.mpr ⟨_, hr, hw⟩⟩)))))
  have hCod : wCo (mRow j) ∈ Ws := Ws_mem (Or.inr (Or.inr (Or.inr (Or.inr (Or.inl (List.mem_flatMap.mpr ⟨g, hg, List.mem_map.mpr ⟨_, hr, rfl⟩⟩))))))
  refine ⟨⟨hCod, hMet _ List.mem_cons_self, ⟨c2, c3, c4⟩, c5, c6⟩, fun h3 => ?_, fun h0 => ?_, fun h1 => ?_, fun h2 h22 => ?_, fun h8 => ?_, hMet⟩
  · have hcn : calN j m = nam j := by
      unfold calN
      split
      · omega
      · omega
      · omega
      · omega
      · rfl
    rw [nam_cls, ← hcn]
    refine Ws_mem (Or.inr (Or.inr (Or.inl ?_)))
    refine List.mem_flatMap.mpr ⟨mcl k, List.mem_range.mpr hlt, List.mem_map.mpr ⟨(idx, (j, n, m)), List.mem_filter.mpr ⟨he, ?_⟩, rfl⟩⟩
    cases hb : Nat.beq m 3 with
    | false => rfl
    | true => exact absurd (Nat.eq_of_beq_eq_true hb) h3
  · subst h0
    simp only [Bool.and_eq_true] at c7
    exact ⟨Nat.eq_of_beq_eq_true c7.1, Nat.le_of_ble_eq_true c7.2⟩
  · subst h1
    exact Nat.eq_of_beq_eq_true c7
  · have : m = 2 ∨ m = 3 := by omega
    rcases this with rfl | rfl
    all_goals
      simp only [Bool.and_eq_true] at c7
      exact ⟨Nat.eq_of_beq_eq_true c7.1, Option.isNone_iff_eq_none.mp c7.2⟩
  · subst h8
    simp only [Bool.and_eq_true] at c7
    exact ⟨Nat.eq_of_beq_eq_true c7.1, Nat.eq_of_beq_eq_true c7.2⟩
theorem mem_0 {j : Nat} (h : mkd j = 0) : Cond.instanceMethod (nam j) ∈ wM (mRow j) ∧ Cond.selects (nam j).cls (nam j) (nam j) ∈ wM (mRow j) := by
  unfold wM
  have h1 : (mRow j).2.2.2.2.2.1 = 0 := h
  rw [h1]
  exact ⟨List.mem_cons_of_mem _ List.mem_cons_self, List.mem_cons_of_mem _ (List.mem_cons_of_mem _ List.mem_cons_self)⟩
theorem mem_1 {j : Nat} (h : mkd j = 1) : Cond.static (nam j) ∈ wM (mRow j) := by
  unfold wM
  have h1 : (mRow j).2.2.2.2.2.1 = 1 := h
  rw [h1]
  exact List.mem_cons_of_mem _ List.mem_cons_self
theorem mem_2 {j : Nat} (h : mkd j = 2) : Cond.instanceMethod (nam j) ∈ wM (mRow j) := by
  unfold wM
  have h1 : (mRow j).2.2.2.2.2.1 = 2 := h
  rw [h1]
  exact List.mem_cons_of_mem _ List.mem_cons_self
theorem wm_mis {w : Cond} (h : w ∈ wMis) : w ∈ Ws := Ws_mem (Or.inr (Or.inr (Or.inr (Or.inr (Or.inr (Or.inr (Or.inr (Or.inr (Or.inr (Or.inr h))))))))))
theorem pg_ok : rOK PG rcl Ws cod nam cnm nests aTs aokL sNs staLs sTs strLs := by
  refine ⟨?_, fun w hw => (Ws_in w hw).2, ?_, ?_, ?_, ?_, ?_, ?_, ?_, ?_, ?_, ?_, ?_, ?_, ?_, ?_, rfl, ?_, ?_, ?_, ?_, ?_, ?_⟩
  · intro k pc i len h
    have hm : (pc, (i, len)) ∈ (mRow k).2.2.2.2.2.2 := lkp_mem h
    have hc := List.all_eq_true.mp (mRow_chk k) _ hm
    simp only [Bool.and_eq_true, decide_eq_true_eq] at hc
    exact hc
  · intro c q hq
    have hlt : c < 13 := (List.getElem?_eq_some_iff.mp hq).1
    obtain ⟨q', h1, h2, h3, h4, h5⟩ := rcl_at c hlt
    have e : q' = q := Option.some.inj (h1.symm.trans hq)
    subst e
    have hw : ∀ w ∈ u_ws q'.1 q'.2.1 q'.2.2 ++ [Cond.instantiable q'.1 q'.2.2, Cond.initialized q'.1], w ∈ Ws := fun w hw => Ws_mem (Or.inr (Or.inr (Or.inr (Or.inr (Or.inr (Or.inl (List.mem_flatMap.mpr ⟨q', List.mem_of_getElem? hq, hw⟩)))))))
    refine ⟨h4, h3, h2, fun w h => hw w (List.mem_append_left _ h), ?_, ?_, ?_, hw _ (List.mem_append_right _ List.mem_cons_self), hw _ (List.mem_append_right _ (List.mem_cons_of_mem _ List.mem_cons_self))⟩
    all_goals
      clear hw h2 h3 h5 h1
      have h : c = 0 ∨ c = 1 ∨ c = 2 ∨ c = 3 ∨ c = 4 ∨ c = 5 ∨ c = 6 ∨ c = 7 ∨ c = 8 ∨ c = 9 ∨ c = 10 ∨ c = 11 ∨ c = 12 := by omega
      rcases h with rfl | rfl | rfl | rfl | rfl | rfl | rfl | rfl | rfl | rfl | rfl | rfl | rfl <;> cases hq
    · exact nmX0
    · exact nmX1
    · exact nmX2
    · exact nmX3
    · exact nmX4
    · exact nmX5
    · exact nmX6
    · exact nmX7
    · exact nmX8
    · exact nmX9
    · exact nmX10
    · exact nmX11
    · exact nmX12
    · exact tyX0_ok
    · exact tyX1_ok
    · exact tyX2_ok
    · exact tyX3_ok
    · exact tyX4_ok
    · exact tyX5_ok
    · exact tyX6_ok
    · exact tyX7_ok
    · exact tyX8_ok
    · exact tyX9_ok
    · exact tyX10_ok
    · exact tyX11_ok
    · exact tyX12_ok
    · exact tyX0_fl
    · exact tyX1_fl
    · exact tyX2_fl
    · exact tyX3_fl
    · exact tyX4_fl
    · exact tyX5_fl
    · exact tyX6_fl
    · exact tyX7_fl
    · exact tyX8_fl
    · exact tyX9_fl
    · exact tyX10_fl
    · exact tyX11_fl
    · exact tyX12_fl
  · intro k idx c f h
    have he : (idx, (c, f)) ∈ fldL.getD (mcl k) [] := lkp_mem h
    have hc := ent_chk fld_chk he
    have hlt : mcl k < 21 := (ent_lt he).1
    have hw : Cond.fieldLink (nam k).cls idx (TFs c f).1 (TFs c f).2.1 (TFs c f).2.2.1 ∈ Ws := by
      rw [nam_cls]
      exact Ws_mem (Or.inl (fm (f := fun c e => Cond.fieldLink (cnm c) e.1 (TFs e.2.1 e.2.2).1 (TFs e.2.1 e.2.2).2.1 (TFs e.2.1 e.2.2).2.2.1) hlt he))
    unfold chkF at hc
    simp only [Bool.or_eq_true, Bool.and_eq_true, decide_eq_true_eq] at hc
    rcases hc with ⟨c1, c2⟩ | ⟨c1, c2⟩
    · obtain ⟨q, h1, h2, h3, h4, h5⟩ := rcl_at c c1
      rw [h5 f] at hw
      exact Or.inl ⟨h4, q, h1, by rw [h2]; exact c2, hw⟩
    · have hc13 : c = 13 := Nat.eq_of_beq_eq_true c1
      subst hc13
      right
      refine ⟨rfl, ?_⟩
      rcases c2 with c2 | c2
      · have hf : f = 0 := Nat.eq_of_beq_eq_true c2
        subst hf
        exact Or.inl ⟨rfl, rfl, hw⟩
      · have hf : f = 1 := Nat.eq_of_beq_eq_true c2
        subst hf
        exact Or.inr ⟨rfl, rfl, hw⟩
  · intro k idx c f h
    have hp : (mkd k = 2 ∧ (idx, (c, f)) ∈ putL.getD (mcl k) []) ∨ (idx, (c, f)) ∈ putN.getD (mcl k) [] := by
      have h' : (match mkd k with
        | 2 => lkp (putL.getD (mcl k) []) idx
        | _ => lkp (putN.getD (mcl k) []) idx) = some (c, f) := h
      split at h'
      · exact Or.inl ⟨by assumption, lkp_mem h'⟩
      · exact Or.inr (lkp_mem h')
    have hw0 : ∀ (he : (idx, (c, f)) ∈ putL.getD (mcl k) [] ++ putN.getD (mcl k) []) (hlt : mcl k < 21), Cond.fieldLink (nam k).cls idx (TFs c f).1 (TFs c f).2.1 (TFs c f).2.2.1 ∈ Ws := by
      intro he hlt
      rw [nam_cls]
      exact Ws_mem (Or.inr (Or.inl (List.mem_flatMap.mpr ⟨mcl k, List.mem_range.mpr hlt, List.mem_map.mpr ⟨_, he, rfl⟩⟩)))
    rcases hp with ⟨hk, he⟩ | he
    · have hlt : mcl k < 21 := (ent_lt he).1
      have hc := List.all_eq_true.mp (putL_chk (mcl k) hlt) _ he
      simp only [Bool.or_eq_true, Bool.and_eq_true, decide_eq_true_eq, Bool.not_eq_true'] at hc
      obtain ⟨⟨c1, c2⟩, c3⟩ := hc
      have hw := hw0 (List.mem_append_left _ he) hlt
      obtain ⟨q, h1, h2, h3, h4, h5⟩ := rcl_at c c1
      rw [h5 f] at hw c3
      refine ⟨q, h1, by rw [h2]; exact c2, hw, ?_⟩
      cases hb : (q.2.1 f).2.2.2 with
      | false => exact Or.inl rfl
      | true =>
        right
        refine ⟨rfl, nam_init hk, ?_⟩
        rcases c3 with c3 | c3
        · rw [hb] at c3; cases c3
        · rw [nam_cls]; exact c3
    · have hlt : mcl k < 21 := (ent_lt he).1
      have hc := ent_chk putN_chk he
      unfold chkN at hc
      simp only [Bool.and_eq_true, decide_eq_true_eq, Bool.not_eq_true'] at hc
      obtain ⟨⟨c1, c2⟩, c3⟩ := hc
      have hw := hw0 (List.mem_append_right _ he) hlt
      obtain ⟨q, h1, h2, h3, h4, h5⟩ := rcl_at c c1
      rw [h5 f] at hw c3
      exact ⟨q, h1, by rw [h2]; exact c2, hw, Or.inl c3⟩
  · intro k idx j n h
    obtain ⟨h1, h2, h3, -, -, -, h6⟩ := cal_ok h (by omega)
    obtain ⟨g1, g2⟩ := h3 rfl
    refine ⟨h1, h2 (by omega), h6 _ (mem_0 g1).1, h6 _ (mem_0 g1).2, nam_cls j, ?_⟩
    show mcl j = strC ∨ ∃ q : vw_C, rcl[mcl j]? = some q
    obtain ⟨q, hq, -⟩ := rcl_at (mcl j) (by omega)
    exact Or.inr ⟨q, hq⟩
  · intro k idx j n h
    obtain ⟨h1, h2, -, -, -, h8, h6⟩ := cal_ok h (by omega)
    obtain ⟨g1, g2⟩ := h8 rfl
    exact ⟨h1, h2 (by omega), h6 _ (mem_0 g1).1, h6 _ (mem_0 g1).2, by rw [nam_cls, g2]; rfl⟩
  · intro k idx j n h
    obtain ⟨h1, h2, -, h4, -, -, h6⟩ := cal_ok h (by omega)
    exact ⟨h1, h2 (by omega), h6 _ (mem_1 (h4 rfl))⟩
  · intro k idx j n h
    obtain ⟨h1, h2, -, -, h5, -, h6⟩ := cal_ok h (by omega)
    obtain ⟨g1, g2⟩ := h5 (by omega) (by omega)
    exact ⟨h1, h2 (by omega), h6 _ (mem_2 g1), nam_init g1, g2⟩
  · intro k idx j n h
    obtain ⟨h1, -, -, -, h5, -, h6⟩ := cal_ok h (by omega)
    obtain ⟨g1, g2⟩ := h5 (by omega) (by omega)
    have he : (idx, (j, n, 3)) ∈ calL.getD (mcl k) [] := lkp_mem h
    have hc := List.all_eq_true.mp (nest_chk (mcl k) (ent_lt he).1) _ he
    simp only [Bool.or_eq_true, decide_eq_true_eq] at hc
    rcases hc with hc | hc
    · cases hc
    · exact ⟨h1, ⟨"FathomNight", by rw [nam_cls]; exact hc⟩, h6 _ (mem_2 g1), nam_init g1, g2⟩
  · intro k idx j n h
    have he : (idx, (j, n, 4)) ∈ calL.getD (mcl k) [] := lkp_mem h
    have hw : Cond.methodLink (nam k).cls idx Lib.objectInit ∈ Ws := by
      rw [nam_cls]
      exact Ws_mem (Or.inr (Or.inr (Or.inl (List.mem_flatMap.mpr ⟨mcl k, List.mem_range.mpr (ent_lt he).1, List.mem_map.mpr ⟨(idx, (j, n, 4)), List.mem_filter.mpr ⟨he, rfl⟩, rfl⟩⟩))))
    exact ⟨hw, wm_mis (by simp [wMis]), wm_mis (by simp [wMis])⟩
  · intro k idx j n h
    have he : (idx, (j, n, 5)) ∈ calL.getD (mcl k) [] := lkp_mem h
    have hw : Cond.methodLink (nam k).cls idx arraycopyName ∈ Ws := by
      rw [nam_cls]
      exact Ws_mem (Or.inr (Or.inr (Or.inl (List.mem_flatMap.mpr ⟨mcl k, List.mem_range.mpr (ent_lt he).1, List.mem_map.mpr ⟨(idx, (j, n, 5)), List.mem_filter.mpr ⟨he, rfl⟩, rfl⟩⟩))))
    exact ⟨hw, wm_mis (by simp [wMis]), wm_mis (by simp [wMis]), wm_mis (by simp [wMis])⟩
  · intro k idx j n h
    have he : (idx, (j, n, 6)) ∈ calL.getD (mcl k) [] := lkp_mem h
    have hw : Cond.methodLink (nam k).cls idx Lib.Math.max.name ∈ Ws := by
      rw [nam_cls]
      exact Ws_mem (Or.inr (Or.inr (Or.inl (List.mem_flatMap.mpr ⟨mcl k, List.mem_range.mpr (ent_lt he).1, List.mem_map.mpr ⟨(idx, (j, n, 6)), List.mem_filter.mpr ⟨he, rfl⟩, rfl⟩⟩))))
    exact ⟨hw, wm_mis (by simp [wMis]), wm_mis (by simp [wMis]), wm_mis (by simp [wMis])⟩
  · intro k idx j n h
    have he : (idx, (j, n, 7)) ∈ calL.getD (mcl k) [] := lkp_mem h
    have hw : Cond.methodLink (nam k).cls idx Lib.Math.min.name ∈ Ws := by
      rw [nam_cls]
      exact Ws_mem (Or.inr (Or.inr (Or.inl (List.mem_flatMap.mpr ⟨mcl k, List.mem_range.mpr (ent_lt he).1, List.mem_map.mpr ⟨(idx, (j, n, 7)), List.mem_filter.mpr ⟨he, rfl⟩, rfl⟩⟩))))
    exact ⟨hw, wm_mis (by simp [wMis]), wm_mis (by simp [wMis]), wm_mis (by simp [wMis])⟩
  · intro k idx c h
    have he : (idx, c) ∈ newL.getD (mcl k) [] := lkp_mem h
    have hc := ent_chk new_chk he
    simp only [decide_eq_true_eq] at hc
    obtain ⟨q, h1, h2, h3, -⟩ := rcl_at c hc
    refine ⟨q, h1, ?_⟩
    rw [nam_cls, h3]
    exact Ws_mem (Or.inr (Or.inr (Or.inr (Or.inr (Or.inr (Or.inr (Or.inl (List.mem_flatMap.mpr ⟨mcl k, List.mem_range.mpr (ent_lt he).1, List.mem_map.mpr ⟨_, List.mem_append_left _ he, rfl⟩⟩))))))))
  · intro k idx t h
    have he : (idx, t) ∈ anwL.getD (mcl k) [] := lkp_mem h
    have hc := ent_chk anw_chk he
    simp only [decide_eq_true_eq] at hc
    refine ⟨?_, hc, (aok_chk t hc).1⟩
    rw [nam_cls]
    exact Ws_mem (Or.inr (Or.inr (Or.inr (Or.inr (Or.inr (Or.inr (Or.inl (List.mem_flatMap.mpr ⟨mcl k, List.mem_range.mpr (ent_lt he).1, List.mem_map.mpr ⟨_, List.mem_append_right _ he, rfl⟩⟩))))))))
  · intro t h
    exact aok_chk t (by simpa using (show aokL.contains t = true from h))
  · intro t ht
    have h : t = 0 ∨ t = 1 ∨ t = 2 ∨ t = 3 := by omega
    rcases h with rfl | rfl | rfl | rfl
    · exact ⟨by decide, wm_mis (by simp [wMis, rAty])⟩
    · exact ⟨by decide, wm_mis (by simp [wMis, rAty])⟩
    · exact ⟨by decide, wm_mis (by simp [wMis, rAty])⟩
    · exact ⟨by decide, wm_mis (by simp [wMis, rAty])⟩
  · intro k idx x h
    have he : (idx, x) ∈ conL.getD (mcl k) [] := lkp_mem h
    rw [nam_cls]
    exact Ws_mem (Or.inr (Or.inr (Or.inr (Or.inr (Or.inr (Or.inr (Or.inr (Or.inl (fm (f := fun c e => Cond.constant (cnm c) e.1 e.2) (ent_lt he).1 he)))))))))
  · intro k idx x h
    have he : (idx, x) ∈ co2L.getD (mcl k) [] := lkp_mem h
    rw [nam_cls]
    exact Ws_mem (Or.inr (Or.inr (Or.inr (Or.inr (Or.inr (Or.inr (Or.inr (Or.inr (Or.inl (fm (f := fun c e => Cond.constantLong (cnm c) e.1 e.2) (ent_lt he).1 he))))))))))
  · intro k idx q h
    have he : (idx, q) ∈ staL0.getD (mcl k) [] := lkp_mem h
    have hc := ent_chk sta_chk he
    simp only [decide_eq_true_eq] at hc
    refine ⟨hc, ?_⟩
    rw [nam_cls]
    exact Ws_mem (Or.inr (Or.inr (Or.inr (Or.inr (Or.inr (Or.inr (Or.inr (Or.inr (Or.inr (Or.inl (fm (f := fun c e => Cond.fieldLink (cnm c) e.1 (sNs e.2).1 (sNs e.2).2.1 (sNs e.2).2.2) (ent_lt he).1 he)))))))))))
  · intro k idx q h
    have he : (idx, q) ∈ strL0.getD (mcl k) [] := lkp_mem h
    have hc := List.all_eq_true.mp (str_chk (mcl k) (ent_lt he).1) _ he
    simp only [Bool.and_eq_true, decide_eq_true_eq] at hc
    exact ⟨hc.1.1, by rw [nam_cls]; exact hc.1.2, hc.2⟩

