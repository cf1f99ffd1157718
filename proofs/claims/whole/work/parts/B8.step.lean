/-! THE STEP of the soundness theorem: one instruction -/
set_option maxHeartbeats 4000000 in
set_option maxRecDepth 100000 in
theorem rStep {P : rPg} {E : (Nat → Value) × (Nat → Nat)} {cl : List vw_C} {Ws : List Cond} {cod : Nat → ByteArray} {nam : Nat → MethodName} {cn : Nat → String} {nest : List (String × Nat × MethodName × String)} {aT aoC : List Nat} {sN : Nat → String × String × String} {staL : List Nat} {sT : Nat → String × Nat × String} {strL : List Nat} {D : va_G} {dA : Nat → ClassId} {lo : Nat} {l : Launch} (G : rOK P cl Ws cod nam cn nest aT aoC sN staL sT strL) {n : Nat} (ih : rWalk P E cl Ws cod nam cn nest aT aoC sN staL sT strL D dA lo l n) : rWalk P E cl Ws cod nam cn nest aT aoC sN staL sT strL D dA lo l (n + 1) := by
  intro d k pc ls st μ v μ' h p e R s m args below meth c H locs cells slots Q Lx μ0 hx hb hml hown hts hKK hini hfr hlo hcM hsM hHo hS hC hU hL hret
  unfold run at h
  replace h := bnd_s h
  obtain ⟨⟨i, len⟩, hi, h⟩ := h
  obtain ⟨gIns, gW, gCl, gFld, gPut, gC0, gC8, gC1, gC2, gC3, gC4, gC5, gC6, gC7, gNew, gAnw, cnS, gAok, gAr, gCon, gCo2, gSta, gStr⟩ := G
  obtain ⟨hdg, hlb⟩ := gIns k pc i len hi
  have hK := hKK.1
  have go : ∀ {pc' : Nat} {ls' : List (Option Value)} {st' : List Value} {μ1 : rM} {H1 : Heap} {locs1 : List Loc} {cells1 slots1 : Nat} {Lx1 : Array Slot}, run P E lo n d k pc' ls' st' μ1 = some (v, μ') → rHo P cl D dA cn lo s H1 μ1 → va_S (fun q => lo ≤ q) s.heap H1 locs1 → cells1 + rz μ0 = rz μ1 → slots1 + ru μ0 = ru μ1 → rLR Lx1 (pMxl P k) ls' → W p l e R s m args below meth c H1 locs1 cells1 slots1 Q (F0 m pc' Lx1 st') :=
    fun h a1 a2 a3 a4 a5 => ih d k _ _ _ _ v μ' h p e R s m args below meth c _ _ _ _ Q _ μ0 hx hb hml hown hts hKK hini hfr hlo hcM hsM a1 a2 a3 a4 a5 hret
  have go0 : ∀ {pc' : Nat} {st' : List Value}, run P E lo n d k pc' ls st' μ = some (v, μ') → W p l e R s m args below meth c H locs cells slots Q (F0 m pc' Lx st') := fun h => go h hHo hS hC hU hL
  have hll : ls.length = pMxl P k := hL.2.1
  have GW : ∀ ws : List Cond, (∀ w ∈ ws, w ∈ Ws) → GoodIn Ws ws := fun ws h w hw => ⟨h w hw, gW w (h w hw)⟩
  -- a call's contract and what it needs
  have blind : ∀ (vs : List Value) (μ1 : rM), FrameBlind (rPc P E cl D dA cn lo nest aT aoC sN staL sT strL vs μ1) := by
    intro vs μ1 a U g mk hq
    obtain ⟨q0, q1, q2⟩ := hq
    exact ⟨q0, q1.moved (U := U.calling g mk a) (Vm.Alike.refl U.vm), rKK.to (U := U.calling g mk a) q2 (State.WarmedH.refl U) (fun _ _ _ => rfl)⟩
  have pre : ∀ (vs : List Value) (U : State), U.heap = H → s.WarmedH U.vm → rPc P E cl D dA cn lo nest aT aoC sN staL sT strL vs μ vs.toArray U := by
    intro vs U hU hW
    exact ⟨rfl, by rw [hU]; exact hHo.moved hW.alike, rKK.to hKK hW (fun a h1 h2 => by rw [hU]; exact hS.2.1 a h1 h2)⟩
  have cgo : ∀ {j : Nat} {vs : List Value} {z : rRs} {d' : Nat} {r : List Value}, run P E lo n d' j 0 (eLn (pMxl P j) vs) [] μ = some z → run P E lo n d k (pc + 3) ls (z.1.toList ++ r) z.2 = some (v, μ') → rz μ ≤ rz z.2 ∧ ru μ ≤ ru z.2 ∧ cells + (rz z.2 - rz μ) ≤ R.cells ∧ slots + (ru z.2 - ru μ) ≤ R.slots ∧ (∀ (H1 : Heap) (locs1 : List Loc), rHo P cl D dA cn lo s H1 z.2 → va_S (fun q => lo ≤ q) s.heap H1 locs1 → W p l e R s m args below meth c H1 locs1 (cells + (rz z.2 - rz μ)) (slots + (ru z.2 - ru μ)) Q (F0 m (pc + 3) Lx (z.1.toList ++ r))) := by
    intro j vs z d' r h1 h2
    have e1 := run_le h1
    have e2 := run_le h2
    obtain ⟨e1a, e1b⟩ := e1
    obtain ⟨e2a, e2b⟩ := e2
    dsimp only at e2a e2b
    refine ⟨e1a, e1b, by omega, by omega, fun H1 locs1 g1 g2 => go h2 g1 g2 (by omega) (by omega) hL⟩
  cases i
  all_goals dsimp only [rBody] at h
  all_goals try (cases h; done)
  all_goals dsimp only [rLb] at hlb
  case iconst n =>
    obtain rfl : len = 1 := of_decide_eq_true hlb
    exact lv_iconst hx hb hdg rfl (go0 h)
  case bipush n =>
    obtain rfl : len = 2 := of_decide_eq_true hlb
    exact lv_bipush hx hb hdg rfl (go0 h)
  case sipush n =>
    obtain rfl : len = 3 := of_decide_eq_true hlb
    exact lv_sipush hx hb hdg rfl (go0 h)
  case lconst n =>
    obtain rfl : len = 1 := of_decide_eq_true hlb
    exact lv_lconst hx hb hdg rfl (go0 h)
  case ldc idx =>
    obtain rfl : len = 2 := of_decide_eq_true hlb
    split at h
    · rename_i x hc
      exact lv_ldc hx hb hown (hts _ (gCon _ _ _ hc)) hdg (go0 h)
    · replace h := bnd_s h
      obtain ⟨q, hq, h⟩ := h
      obtain ⟨g1, g2, g3⟩ := gStr _ _ _ hq
      have hR := hKK.2.2.2.2.2.1 q g1
      rw [g2, g3] at hR
      exact va_ldcS hx hb hown hR hdg (go0 h)
  case ldc_w idx =>
    obtain rfl : len = 3 := of_decide_eq_true hlb
    replace h := bnd_s h
    obtain ⟨x, hc, h⟩ := h
    exact lv_ldcw hx hb hown (hts _ (gCon _ _ _ hc)) hdg (go0 h)
  case ldc2_w idx =>
    obtain rfl : len = 3 := of_decide_eq_true hlb
    replace h := bnd_s h
    obtain ⟨x, hc, h⟩ := h
    exact lv_ldc2 hx hb hown (hts _ (gCo2 _ _ _ hc)) hdg (go0 h)
  case iload j =>
    obtain rfl : len = 2 := of_decide_eq_true hlb
    replace h := bnd_s h
    obtain ⟨w, hw, h⟩ := h
    replace h := oI_s h
    obtain ⟨x, r, e0, h⟩ := h
    cases e0
    exact lv_iload hx hb hdg (hL.2.2.2 _ _ hw) (go0 h)
  case iload_n j =>
    obtain rfl : len = 1 := of_decide_eq_true hlb
    replace h := bnd_s h
    obtain ⟨w, hw, h⟩ := h
    replace h := oI_s h
    obtain ⟨x, r, e0, h⟩ := h
    cases e0
    exact lv_iload_n hx hb hdg rfl (hL.2.2.2 _ _ hw) (go0 h)
  case lload j =>
    obtain rfl : len = 2 := of_decide_eq_true hlb
    replace h := bnd_s h
    obtain ⟨w, hw, h⟩ := h
    replace h := oL_s h
    obtain ⟨x, r, e0, h⟩ := h
    cases e0
    exact lv_lload hx hb hdg (hL.2.2.2 _ _ hw) (go0 h)
  case lload_n j =>
    obtain rfl : len = 1 := of_decide_eq_true hlb
    replace h := bnd_s h
    obtain ⟨w, hw, h⟩ := h
    replace h := oL_s h
    obtain ⟨x, r, e0, h⟩ := h
    cases e0
    exact lv_lload_n hx hb hdg rfl (hL.2.2.2 _ _ hw) (go0 h)
  case aload j =>
    obtain rfl : len = 2 := of_decide_eq_true hlb
    replace h := bnd_s h
    obtain ⟨w, hw, h⟩ := h
    replace h := oR_s h
    obtain ⟨x, r, e0, h⟩ := h
    cases e0
    exact lv_aload hx hb hdg (hL.2.2.2 _ _ hw) (go0 h)
  case aload_n j =>
    obtain rfl : len = 1 := of_decide_eq_true hlb
    replace h := bnd_s h
    obtain ⟨w, hw, h⟩ := h
    replace h := oR_s h
    obtain ⟨x, r, e0, h⟩ := h
    cases e0
    exact lv_aload_n hx hb hdg rfl (hL.2.2.2 _ _ hw) (go0 h)
  case istore j =>
    obtain rfl : len = 2 := of_decide_eq_true hlb
    replace h := ite_s h
    obtain ⟨hj, h⟩ := h
    replace h := oI_s h
    obtain ⟨x, r, e0, h⟩ := h
    subst e0
    exact lv_istore hx hb hdg hL.has (by rw [← hll]; exact hj) rfl (fun Ly hy => go h hHo hS hC hU (hL.st1 hj hy))
  case istore_n j =>
    obtain rfl : len = 1 := of_decide_eq_true hlb
    replace h := ite_s h
    obtain ⟨hj, h⟩ := h
    replace h := oI_s h
    obtain ⟨x, r, e0, h⟩ := h
    subst e0
    exact lv_istore_n hx hb hdg rfl hL.has (by rw [← hll]; exact hj) rfl (fun Ly hy => go h hHo hS hC hU (hL.st1 hj hy))
  case astore j =>
    obtain rfl : len = 2 := of_decide_eq_true hlb
    replace h := ite_s h
    obtain ⟨hj, h⟩ := h
    replace h := oR_s h
    obtain ⟨x, r, e0, h⟩ := h
    subst e0
    exact lv_astore hx hb hdg hL.has (by rw [← hll]; exact hj) rfl (fun Ly hy => go h hHo hS hC hU (hL.st1 hj hy))
  case astore_n j =>
    obtain rfl : len = 1 := of_decide_eq_true hlb
    replace h := ite_s h
    obtain ⟨hj, h⟩ := h
    replace h := oR_s h
    obtain ⟨x, r, e0, h⟩ := h
    subst e0
    exact lv_astore_n hx hb hdg rfl hL.has (by rw [← hll]; exact hj) rfl (fun Ly hy => go h hHo hS hC hU (hL.st1 hj hy))
  case lstore j =>
    obtain rfl : len = 2 := of_decide_eq_true hlb
    replace h := ite_s h
    obtain ⟨hj, h⟩ := h
    replace h := oL_s h
    obtain ⟨x, r, e0, h⟩ := h
    subst e0
    exact lv_lstore hx hb hdg hL.has (by rw [← hll]; exact hj) rfl (fun Ly hy => go h hHo hS hC hU (hL.st2 hj hy))
  case lstore_n j =>
    obtain rfl : len = 1 := of_decide_eq_true hlb
    replace h := ite_s h
    obtain ⟨hj, h⟩ := h
    replace h := oL_s h
    obtain ⟨x, r, e0, h⟩ := h
    subst e0
    exact lv_lstore_n hx hb hdg rfl hL.has (by rw [← hll]; exact hj) rfl (fun Ly hy => go h hHo hS hC hU (hL.st2 hj hy))
  case iinc j q =>
    obtain rfl : len = 3 := of_decide_eq_true hlb
    replace h := ite_s h
    obtain ⟨hj, h⟩ := h
    replace h := bnd_s h
    obtain ⟨w, hw, h⟩ := h
    replace h := oI_s h
    obtain ⟨x, r, e0, h⟩ := h
    cases e0
    obtain ⟨kx, hkx⟩ := List.getElem?_of_mem (mem_aL.mpr (show gL ls (j, Value.int x).1 = some (j, Value.int x).2 from hw))
    exact lv_iinc hx hb hdg hL.has hkx rfl (by rw [← hll]; exact hj) rfl (fun Ly hy => go h hHo hS hC hU (hL.st1 hj hy))
  case iadd =>
    obtain rfl : len = 1 := of_decide_eq_true hlb
    replace h := oII_s h
    obtain ⟨x, y, r, e0, h⟩ := h
    subst e0
    exact lv_iadd hx hb hdg (go0 h)
  case isub =>
    obtain rfl : len = 1 := of_decide_eq_true hlb
    replace h := oII_s h
    obtain ⟨x, y, r, e0, h⟩ := h
    subst e0
    exact lv_isub hx hb hdg (go0 h)
  case imul =>
    obtain rfl : len = 1 := of_decide_eq_true hlb
    replace h := oII_s h
    obtain ⟨x, y, r, e0, h⟩ := h
    subst e0
    exact lv_imul hx hb hdg (go0 h)
  case iand =>
    obtain rfl : len = 1 := of_decide_eq_true hlb
    replace h := oII_s h
    obtain ⟨x, y, r, e0, h⟩ := h
    subst e0
    exact lv_iand hx hb hdg (go0 h)
  case ior =>
    obtain rfl : len = 1 := of_decide_eq_true hlb
    replace h := oII_s h
    obtain ⟨x, y, r, e0, h⟩ := h
    subst e0
    exact lv_ior hx hb hdg (go0 h)
  case ixor =>
    obtain rfl : len = 1 := of_decide_eq_true hlb
    replace h := oII_s h
    obtain ⟨x, y, r, e0, h⟩ := h
    subst e0
    exact lv_ixor hx hb hdg (go0 h)
  case ishl =>
    obtain rfl : len = 1 := of_decide_eq_true hlb
    replace h := oII_s h
    obtain ⟨x, y, r, e0, h⟩ := h
    subst e0
    exact lv_ishl hx hb hdg (go0 h)
  case ishr =>
    obtain rfl : len = 1 := of_decide_eq_true hlb
    replace h := oII_s h
    obtain ⟨x, y, r, e0, h⟩ := h
    subst e0
    exact lv_ishr hx hb hdg (go0 h)
  case iushr =>
    obtain rfl : len = 1 := of_decide_eq_true hlb
    replace h := oII_s h
    obtain ⟨x, y, r, e0, h⟩ := h
    subst e0
    exact lv_iushr hx hb hdg rfl (go0 h)
  case idiv =>
    obtain rfl : len = 1 := of_decide_eq_true hlb
    replace h := oII_s h
    obtain ⟨x, y, r, e0, h⟩ := h
    subst e0
    split at h
    · cases h
    · rename_i hy
      exact lv_idiv hx hb hdg hy (go0 h)
  case irem =>
    obtain rfl : len = 1 := of_decide_eq_true hlb
    replace h := oII_s h
    obtain ⟨x, y, r, e0, h⟩ := h
    subst e0
    split at h
    · cases h
    · rename_i hy
      exact lv_irem hx hb hdg hy (go0 h)
  case ladd =>
    obtain rfl : len = 1 := of_decide_eq_true hlb
    replace h := oLL_s h
    obtain ⟨x, y, r, e0, h⟩ := h
    subst e0
    exact lv_ladd hx hb hdg (go0 h)
  case lsub =>
    obtain rfl : len = 1 := of_decide_eq_true hlb
    replace h := oLL_s h
    obtain ⟨x, y, r, e0, h⟩ := h
    subst e0
    exact lv_lsub hx hb hdg (go0 h)
  case lmul =>
    obtain rfl : len = 1 := of_decide_eq_true hlb
    replace h := oLL_s h
    obtain ⟨x, y, r, e0, h⟩ := h
    subst e0
    exact lv_lmul hx hb hdg (go0 h)
  case lcmp =>
    obtain rfl : len = 1 := of_decide_eq_true hlb
    replace h := oLL_s h
    obtain ⟨x, y, r, e0, h⟩ := h
    subst e0
    exact W.lcmp hx hb hdg (go0 h)
  case i2l =>
    obtain rfl : len = 1 := of_decide_eq_true hlb
    replace h := oI_s h
    obtain ⟨x, r, e0, h⟩ := h
    subst e0
    exact lv_i2l hx hb hdg rfl (go0 h)
  case i2b =>
    obtain rfl : len = 1 := of_decide_eq_true hlb
    replace h := oI_s h
    obtain ⟨x, r, e0, h⟩ := h
    subst e0
    exact lv_i2b hx hb hdg rfl (go0 h)
  case i2c =>
    obtain rfl : len = 1 := of_decide_eq_true hlb
    replace h := oI_s h
    obtain ⟨x, r, e0, h⟩ := h
    subst e0
    exact lv_i2c hx hb hdg rfl (go0 h)
  case pop =>
    obtain rfl : len = 1 := of_decide_eq_true hlb
    replace h := oV_s h
    obtain ⟨x, r, e0, h⟩ := h
    subst e0
    replace h := ite_s h
    obtain ⟨hc, h⟩ := h
    exact lv_pop hx hb hdg hc (go0 h)
  case dup =>
    obtain rfl : len = 1 := of_decide_eq_true hlb
    replace h := oV_s h
    obtain ⟨x, r, e0, h⟩ := h
    subst e0
    replace h := ite_s h
    obtain ⟨hc, h⟩ := h
    exact lv_dup hx hb hdg hc (go0 h)
  case dup2 =>
    obtain rfl : len = 1 := of_decide_eq_true hlb
    replace h := oVV_s h
    obtain ⟨x, y, r, e0, h⟩ := h
    subst e0
    replace h := ite_s h
    obtain ⟨hc, h⟩ := h
    exact lv_dup2_11 hx hb hdg hc.1 hc.2 (go0 h)
  case goto off =>
    obtain rfl : len = 3 := of_decide_eq_true hlb
    replace h := jmp_s h
    obtain ⟨t, ht, h⟩ := h
    exact lv_goto hx hb hdg ht (go0 h)
  case ifCond cd off =>
    obtain rfl : len = 3 := of_decide_eq_true hlb
    replace h := oI_s h
    obtain ⟨x, r, e0, h⟩ := h
    subst e0
    replace h := jmp_s h
    obtain ⟨t, ht, h⟩ := h
    cases cd
    · exact lv_if_eq hx hb hdg ht (fun hc => go0 ((if_pos (decide_eq_true hc)).symm.trans h)) (fun hc => go0 ((if_neg (fun q => hc (of_decide_eq_true q))).symm.trans h))
    · exact lv_if_ne hx hb hdg ht (fun hc => go0 ((if_pos (decide_eq_true hc)).symm.trans h)) (fun hc => go0 ((if_neg (fun q => (of_decide_eq_true q) hc)).symm.trans h))
    · exact lv_if_lt hx hb hdg ht (fun hc => go0 ((if_pos (decide_eq_true hc)).symm.trans h)) (fun hc => go0 ((if_neg (fun q => hc (of_decide_eq_true q))).symm.trans h))
    · exact lv_if_ge hx hb hdg ht (fun hc => go0 ((if_pos (decide_eq_true hc)).symm.trans h)) (fun hc => go0 ((if_neg (fun q => hc (of_decide_eq_true q))).symm.trans h))
    · exact lv_if_gt hx hb hdg ht (fun hc => go0 ((if_pos (decide_eq_true hc)).symm.trans h)) (fun hc => go0 ((if_neg (fun q => hc (of_decide_eq_true q))).symm.trans h))
    · exact lv_if_le hx hb hdg ht (fun hc => go0 ((if_pos (decide_eq_true hc)).symm.trans h)) (fun hc => go0 ((if_neg (fun q => hc (of_decide_eq_true q))).symm.trans h))
  case if_icmp cd off =>
    obtain rfl : len = 3 := of_decide_eq_true hlb
    replace h := oII_s h
    obtain ⟨x, y, r, e0, h⟩ := h
    subst e0
    replace h := jmp_s h
    obtain ⟨t, ht, h⟩ := h
    cases cd
    · exact lv_icmp_eq hx hb hdg ht (fun hc => go0 ((if_pos (decide_eq_true hc)).symm.trans h)) (fun hc => go0 ((if_neg (fun q => hc (of_decide_eq_true q))).symm.trans h))
    · exact lv_icmp_ne hx hb hdg ht (fun hc => go0 ((if_pos (decide_eq_true hc)).symm.trans h)) (fun hc => go0 ((if_neg (fun q => (of_decide_eq_true q) hc)).symm.trans h))
    · exact lv_icmp_lt hx hb hdg ht (fun hc => go0 ((if_pos (decide_eq_true hc)).symm.trans h)) (fun hc => go0 ((if_neg (fun q => hc (of_decide_eq_true q))).symm.trans h))
    · exact lv_icmp_ge hx hb hdg ht (fun hc => go0 ((if_pos (decide_eq_true hc)).symm.trans h)) (fun hc => go0 ((if_neg (fun q => hc (of_decide_eq_true q))).symm.trans h))
    · exact lv_icmp_gt hx hb hdg ht (fun hc => go0 ((if_pos (decide_eq_true hc)).symm.trans h)) (fun hc => go0 ((if_neg (fun q => hc (of_decide_eq_true q))).symm.trans h))
    · exact lv_icmp_le hx hb hdg ht (fun hc => go0 ((if_pos (decide_eq_true hc)).symm.trans h)) (fun hc => go0 ((if_neg (fun q => hc (of_decide_eq_true q))).symm.trans h))
  case ifnonnull off =>
    obtain rfl : len = 3 := of_decide_eq_true hlb
    replace h := oV_s h
    obtain ⟨w, r, e0, h⟩ := h
    subst e0
    replace h := jmp_s h
    obtain ⟨t, ht, h⟩ := h
    split at h
    · exact lv_ifnonnull hx hb hdg ht (go0 h)
    · exact lv_ifnonnullN hx hb hdg (go0 h)
    · cases h
  case tableswitch df a b offs =>
    replace h := oI_s h
    obtain ⟨x, r, e0, h⟩ := h
    subst e0
    split at h
    · rename_i hc
      replace h := jmp_s h
      obtain ⟨t, ht, h⟩ := h
      exact lv_tableOut hx hb hdg hc ht (go0 h)
    · rename_i hc
      replace h := bnd_s h
      obtain ⟨off, ho, h⟩ := h
      replace h := jmp_s h
      obtain ⟨t, ht, h⟩ := h
      exact lv_tableIn hx hb hdg (fun q => hc (Or.inl q)) (fun q => hc (Or.inr q)) ho ht (go0 h)
  case getfield idx =>
    obtain rfl : len = 3 := of_decide_eq_true hlb
    replace h := oR_s h
    obtain ⟨a, r, e0, h⟩ := h
    subst e0
    replace h := bnd_s h
    obtain ⟨⟨ci, f⟩, hq, h⟩ := h
    rcases gFld _ _ _ _ hq with ⟨hcs, q, h1, h2, h3⟩ | ⟨rfl, hs⟩
    · rw [if_neg (show ¬ (ci, f).1 = 13 from hcs)] at h
      replace h := ite_s h
      obtain ⟨hk, h⟩ := h
      exact w_getf hx hb hown hts hK hHo hcs h1 (gCl _ _ h1).2.2.2.1 h2 h3 hk hdg (go0 h)
    · rw [if_pos (show (strC, f).1 = 13 from rfl)] at h
      replace h := bnd_s h
      obtain ⟨nn, hn, h⟩ := h
      obtain ⟨hn4, rfl⟩ := strNo_sp hn
      obtain ⟨-, o1, o2⟩ := hKK.2.2.2.2.2.2 nn hn4
      dsimp only at h
      rcases hs with ⟨rfl, ht, h3⟩ | ⟨rfl, ht, h3⟩
      · rw [if_pos rfl] at h
        exact w_getS hx hb hown (hts _ h3) (o1.keptS hS) hdg (go0 h)
      · rw [if_neg (by decide)] at h
        exact w_getS hx hb hown (hts _ h3) (o2.keptS hS) hdg (go0 h)
  case putfield idx =>
    obtain rfl : len = 3 := of_decide_eq_true hlb
    replace h := oVR_s h
    obtain ⟨a, w, r, e0, h⟩ := h
    subst e0
    replace h := bnd_s h
    obtain ⟨⟨ci, f⟩, hq, h⟩ := h
    replace h := ite_s h
    obtain ⟨⟨hk, hla⟩, h⟩ := h
    replace h := bnd_s h
    obtain ⟨μ1, hp, h⟩ := h
    obtain ⟨q, h1, h2, h3, h4⟩ := gPut _ _ _ _ hq
    obtain ⟨g1, -, -, g4, g5, g6, -⟩ := gCl _ _ h1
    have hz := rPut_le hp
    exact w_putf hx hb hown hts hK hHo hS g1 h1 g4 g5 g6 h2 h3 (h4.imp id (fun z => ⟨z.1, hini z.2.1, z.2.2⟩)) hk hla hp hdg (fun H1 locs1 a1 a2 => go h a1 a2 (by rw [hz.1]; exact hC) (by rw [hz.2]; exact hU) hL)
  case getstatic idx =>
    obtain rfl : len = 3 := of_decide_eq_true hlb
    replace h := bnd_s h
    obtain ⟨q, hq, h⟩ := h
    obtain ⟨g1, g2⟩ := gSta _ _ _ hq
    exact va_gets hx hb (hKK.2.2.2.2.1 q g1) hS hown (hts _ g2) (fun _ z => z) hdg (go0 h)
  case iaload =>
    obtain rfl : len = 1 := of_decide_eq_true hlb
    replace h := oIR_s h
    obtain ⟨a, j, r, e0, h⟩ := h
    subst e0
    split at h
    · rename_i hk
      replace h := ite_s h
      obtain ⟨ha, h⟩ := h
      exact w_iald hx hb hHo hk ha hdg (go0 h)
    · cases h
  case baload =>
    obtain rfl : len = 1 := of_decide_eq_true hlb
    replace h := oIR_s h
    obtain ⟨a, j, r, e0, h⟩ := h
    subst e0
    split at h
    · rename_i hk
      replace h := ite_s h
      obtain ⟨ha, h⟩ := h
      exact w_bald hx hb hHo hk ha hdg (go0 h)
    · rename_i hk
      replace h := ite_s h
      obtain ⟨ha, h⟩ := h
      exact w_zald hx hb hHo hk ha hdg (go0 h)
    · cases h
  case laload =>
    obtain rfl : len = 1 := of_decide_eq_true hlb
    replace h := oIR_s h
    obtain ⟨a, j, r, e0, h⟩ := h
    subst e0
    split at h
    · rename_i hk
      replace h := ite_s h
      obtain ⟨ha, h⟩ := h
      exact w_lald hx hb hHo hk ha hdg (go0 h)
    · cases h
  case aaload =>
    obtain rfl : len = 1 := of_decide_eq_true hlb
    replace h := oIR_s h
    obtain ⟨a, j, r, e0, h⟩ := h
    subst e0
    split at h
    · rename_i hk
      replace h := ite_s h
      obtain ⟨ha, h⟩ := h
      exact w_aald hx hb hHo hk ha hdg (go0 h)
    · cases h
  case iastore =>
    obtain rfl : len = 1 := of_decide_eq_true hlb
    replace h := oIIR_s h
    obtain ⟨a, j, x, r, e0, h⟩ := h
    subst e0
    split at h
    · rename_i hk
      replace h := ite_s h
      obtain ⟨⟨ha, hla⟩, h⟩ := h
      exact w_iast hx hb hHo hS hk hla ha hdg (fun H1 locs1 a1 a2 => go h a1 a2 hC hU hL)
    · cases h
  case bastore =>
    obtain rfl : len = 1 := of_decide_eq_true hlb
    replace h := oIIR_s h
    obtain ⟨a, j, x, r, e0, h⟩ := h
    subst e0
    split at h
    · rename_i hk
      replace h := ite_s h
      obtain ⟨⟨ha, hla⟩, h⟩ := h
      exact w_bast hx hb hHo hS hk hla ha hdg (fun H1 locs1 a1 a2 => go h a1 a2 hC hU hL)
    · rename_i hk
      replace h := ite_s h
      obtain ⟨⟨ha, hla⟩, h⟩ := h
      exact w_zast hx hb hHo hS hk hla ha hdg (fun H1 locs1 a1 a2 => go h a1 a2 hC hU hL)
    · cases h
  case lastore =>
    obtain rfl : len = 1 := of_decide_eq_true hlb
    replace h := oLIR_s h
    obtain ⟨a, j, x, r, e0, h⟩ := h
    subst e0
    split at h
    · rename_i hk
      replace h := ite_s h
      obtain ⟨⟨ha, hla⟩, h⟩ := h
      exact w_last hx hb hHo hS hk hla ha hdg (fun H1 locs1 a1 a2 => go h a1 a2 hC hU hL)
    · cases h
  case aastore =>
    obtain rfl : len = 1 := of_decide_eq_true hlb
    replace h := oRIR_s h
    obtain ⟨a, j, x, r, e0, h⟩ := h
    subst e0
    split at h
    · rename_i t nn hk
      replace h := ite_s h
      obtain ⟨⟨ha, hla, hkx, hao⟩, h⟩ := h
      have hcx := hHo.2.2 x _ hkx
      obtain ⟨hta, hts0⟩ := gAok t hao
      simp only [rCell, if_neg hts0] at hcx
      obtain ⟨q, hq, -⟩ := hcx
      exact w_aast hx hb hK hHo hS hk hla ha hts0 hq (gCl _ _ hq).2.1 (hKK.2.1 _ hta).2 hkx hdg (fun H1 locs1 a1 a2 => go h a1 a2 hC hU hL)
    · cases h
  case arraylength =>
    obtain rfl : len = 1 := of_decide_eq_true hlb
    replace h := oR_s h
    obtain ⟨a, r, e0, h⟩ := h
    subst e0
    split at h
    · rename_i hk
      exact w_alen hx hb hHo hk hdg (go0 h)
    · cases h
  case newarray ty =>
    obtain rfl : len = 2 := of_decide_eq_true hlb
    replace h := oI_s h
    obtain ⟨nn, r, e0, h⟩ := h
    subst e0
    replace h := bnd_s h
    obtain ⟨t, ht, h⟩ := h
    replace h := ite_s h
    obtain ⟨hn, h⟩ := h
    have e2 := run_le h
    obtain ⟨e2a, e2b⟩ := e2
    change rz μ + 1 ≤ rz μ' at e2a
    change ru μ + _ ≤ ru μ' at e2b
    have ht4 : t < 4 := by cases ty <;> first | (cases ht; decide) | (cases ht)
    exact w_newa hx hb hts hHo hS ht (hKK.2.1 t (gAr t ht4).1) (gAr t ht4).2 hn (by omega) (by omega) hdg (fun H1 a1 a2 => go h a1 a2 (by show _ = rz μ + 1; omega) (by show _ = ru μ + _; omega) hL)
  case anewarray idx =>
    obtain rfl : len = 3 := of_decide_eq_true hlb
    replace h := oI_s h
    obtain ⟨nn, r, e0, h⟩ := h
    subst e0
    replace h := bnd_s h
    obtain ⟨t, ht, h⟩ := h
    replace h := ite_s h
    obtain ⟨hn, h⟩ := h
    have e2 := run_le h
    obtain ⟨e2a, e2b⟩ := e2
    change rz μ + 1 ≤ rz μ' at e2a
    change ru μ + _ ≤ ru μ' at e2b
    obtain ⟨g1, g2, g3⟩ := gAnw _ _ _ ht
    exact w_anew hx hb hown hts hHo hS (hKK.2.1 _ g3) g1 (hKK.2.2.2.1 t g2) hn (by omega) (by omega) hdg (fun H1 a1 a2 => go h a1 a2 (by show _ = rz μ + 1; omega) (by show _ = ru μ + _; omega) hL)
  case new idx =>
    obtain rfl : len = 3 := of_decide_eq_true hlb
    replace h := bnd_s h
    obtain ⟨ci, hci, h⟩ := h
    have e2 := run_le h
    obtain ⟨e2a, e2b⟩ := e2
    change rz μ + 1 ≤ rz μ' at e2a
    change ru μ + _ ≤ ru μ' at e2b
    obtain ⟨q, hq, hcl⟩ := gNew _ _ _ hci
    obtain ⟨g1, -, g3, g4, -, g6, g7, g8, g9⟩ := gCl _ _ hq
    exact w_new hx hb hown hts hK hHo hS g1 hq g4 g6 g7 hcl g8 g9 g3 (by omega) (by omega) hdg (fun H1 a1 a2 => go h a1 a2 (by show _ = rz μ + 1; omega) (by show _ = ru μ + _; omega) hL)
  case invokevirtual idx =>
    obtain rfl : len = 3 := of_decide_eq_true hlb
    unfold rInv at h
    split at h
    · rename_i j nn hc
      replace h := bnd_s h
      obtain ⟨⟨As, r0⟩, hpop, h⟩ := h
      replace h := oR_s h
      obtain ⟨b, r, e0, h⟩ := h
      dsimp only at e0
      subst e0
      replace h := ite_s h
      obtain ⟨⟨hvir, hkb, hst⟩, h⟩ := h
      replace h := bnd_s h
      obtain ⟨z, hz, h⟩ := h
      cases d with
      | zero => cases hz
      | succ d =>
        dsimp only at hz
        replace hz := ite_s hz
        obtain ⟨hlen, hz⟩ := hz
        obtain ⟨e1, e2⟩ := popN_s hpop
        dsimp only at e1 e2
        subst e1
        obtain ⟨c1, c2, c3, c4, c5⟩ := cgo hz h
        obtain ⟨⟨k1, k2, k3, k4, k5⟩, m1, m2, m3, m4, m5⟩ := gC0 _ _ _ _ hc
        have hM := rMet ih hlen k5 (show run P E lo n d j 0 (eLn (pMxl P j) (.ref b :: As)) [] μ = some (z.1, z.2) from hz)
        have hcb := hHo.2.2 b _ hkb
        have hrecv : ∃ cellB : Cell, H[b]? = some cellB ∧ cellB.vm.isStatics = false ∧ s.vm.findClass (nam j).cls = some cellB.cls := by
          rw [m4]
          rcases m5 with hs | ⟨q, hq⟩
          · rw [hs] at hcb ⊢
            simp only [rCell, if_true] at hcb
            obtain ⟨⟨cB, y1, y2, y3, -⟩, -⟩ := hcb
            exact ⟨cB, y1, y2, by rw [cnS]; exact y3⟩
          · obtain ⟨g1, g2, -⟩ := gCl _ _ hq
            simp only [rCell, if_neg g1] at hcb
            obtain ⟨q', -, cB, y1, y2, y3, -⟩ := hcb
            exact ⟨cB, y1, by rw [y3]; rfl, by rw [y2, ← g2]; exact (hK _ _ hq).2.1⟩
        have hG : GoodIn Ws (wsV (nam k).cls idx (nam j).cls (nam j) (Cond.code (nam j) (cod j) (pMxl P j) (pRet P j) :: Ws)) := by
          refine GW _ fun w hw => ?_
          simp only [wsV, List.mem_append, List.mem_cons, List.not_mem_nil, or_false] at hw
          rcases hw with (rfl | rfl | rfl | rfl) | rfl | hw
          · exact m1
          · exact m2
          · exact m3
          · exact k2
          · exact k1
          · exact hw
        refine w_call (va_runV (As := As) (rest := r) ⟨hx, hb, hml, hown, hts⟩ hM (cwV nn hts hG rfl rfl rfl ⟨rfl, k3⟩ ⟨by show d + 1 + 1 ≤ _; omega, by show 8 + (pMxl P j + 11) + 64 * (d + 1) ≤ _; omega⟩) ⟨blind _ _, hrecv, fun U hU hW => pre _ U hU hW⟩ rfl e2 hL.1 rfl (lv_room hst) hdg ⟨c3, c4⟩) hS c5
    · rename_i j nn hc
      replace h := bnd_s h
      obtain ⟨⟨As, r0⟩, hpop, h⟩ := h
      replace h := oR_s h
      obtain ⟨b, r, e0, h⟩ := h
      dsimp only at e0
      subst e0
      replace h := ite_s h
      obtain ⟨⟨hvir, hst⟩, h⟩ := h
      cases hvir
    · rename_i j nn hc
      replace h := bnd_s h
      obtain ⟨⟨As, r0⟩, hpop, h⟩ := h
      replace h := oR_s h
      obtain ⟨b, r, e0, h⟩ := h
      dsimp only at e0
      subst e0
      replace h := ite_s h
      obtain ⟨⟨hvir, hst⟩, h⟩ := h
      cases hvir
    · rename_i j nn hc
      replace h := bnd_s h
      obtain ⟨⟨As, r0⟩, hpop, h⟩ := h
      replace h := oR_s h
      obtain ⟨b, r, e0, h⟩ := h
      dsimp only at e0
      subst e0
      replace h := ite_s h
      obtain ⟨⟨hvir, hstr, hst⟩, h⟩ := h
      replace h := bnd_s h
      obtain ⟨z, hz, h⟩ := h
      cases d with
      | zero => cases hz
      | succ d =>
        dsimp only at hz
        replace hz := ite_s hz
        obtain ⟨hlen, hz⟩ := hz
        obtain ⟨e1, e2⟩ := popN_s hpop
        dsimp only at e1 e2
        subst e1
        obtain ⟨c1, c2, c3, c4, c5⟩ := cgo hz h
        obtain ⟨⟨k1, k2, k3, k4, k5⟩, m1, m2, m3, m4⟩ := gC8 _ _ _ _ hc
        have hM := rMet ih hlen k5 (show run P E lo n d j 0 (eLn (pMxl P j) (.ref b :: As)) [] μ = some (z.1, z.2) from hz)
        have hrecv : ∃ cellB : Cell, H[b]? = some cellB ∧ cellB.vm.isStatics = false ∧ s.vm.findClass (nam j).cls = some cellB.cls := by
          rw [m4]
          obtain ⟨q, hq⟩ := Option.isSome_iff_exists.mp hstr
          obtain ⟨hn4, rfl⟩ := strNo_sp hq
          obtain ⟨cB, y1, y2, y3, -⟩ := (hKK.2.2.2.2.2.2 q hn4).1.keptS hS
          exact ⟨cB, y1, y2, y3⟩
        have hG : GoodIn Ws (wsV (nam k).cls idx (nam j).cls (nam j) (Cond.code (nam j) (cod j) (pMxl P j) (pRet P j) :: Ws)) := by
          refine GW _ fun w hw => ?_
          simp only [wsV, List.mem_append, List.mem_cons, List.not_mem_nil, or_false] at hw
          rcases hw with (rfl | rfl | rfl | rfl) | rfl | hw
          · exact m1
          · exact m2
          · exact m3
          · exact k2
          · exact k1
          · exact hw
        refine w_call (va_runV (As := As) (rest := r) ⟨hx, hb, hml, hown, hts⟩ hM (cwV nn hts hG rfl rfl rfl ⟨rfl, k3⟩ ⟨by show d + 1 + 1 ≤ _; omega, by show 8 + (pMxl P j + 11) + 64 * (d + 1) ≤ _; omega⟩) ⟨blind _ _, hrecv, fun U hU hW => pre _ U hU hW⟩ rfl e2 hL.1 rfl (lv_room hst) hdg ⟨c3, c4⟩) hS c5
    · rename_i x1 x2 hc
      replace h := oR_s h
      obtain ⟨b, r, e0, h⟩ := h
      subst e0
      replace h := ite_s h
      obtain ⟨⟨hvir, hst⟩, h⟩ := h
      cases hvir
    · cases h
  case invokespecial idx =>
    obtain rfl : len = 3 := of_decide_eq_true hlb
    unfold rInv at h
    split at h
    · rename_i j nn hc
      replace h := bnd_s h
      obtain ⟨⟨As, r0⟩, hpop, h⟩ := h
      replace h := oR_s h
      obtain ⟨b, r, e0, h⟩ := h
      dsimp only at e0
      subst e0
      replace h := ite_s h
      obtain ⟨⟨hvir, hkb, hst⟩, h⟩ := h
      cases hvir
    · rename_i j nn hc
      replace h := bnd_s h
      obtain ⟨⟨As, r0⟩, hpop, h⟩ := h
      replace h := oR_s h
      obtain ⟨b, r, e0, h⟩ := h
      dsimp only at e0
      subst e0
      replace h := ite_s h
      obtain ⟨⟨hvir, hst⟩, h⟩ := h
      replace h := bnd_s h
      obtain ⟨z, hz, h⟩ := h
      cases d with
      | zero => cases hz
      | succ d =>
        dsimp only at hz
        replace hz := ite_s hz
        obtain ⟨hlen, hz⟩ := hz
        obtain ⟨e1, e2⟩ := popN_s hpop
        dsimp only at e1 e2
        subst e1
        obtain ⟨c1, c2, c3, c4, c5⟩ := cgo hz h
        obtain ⟨⟨k1, k2, k3, k4, k5⟩, m1, m2, m3, m4⟩ := gC2 _ _ _ _ hc
        have hM := rMet ih hlen k5 (show run P E lo n d j 0 (eLn (pMxl P j) (.ref b :: As)) [] μ = some (z.1, z.2) from hz)
        rw [m4] at hM k1
        have hG : GoodIn Ws (Cond.code (nam j) (cod j) (pMxl P j) none :: Ws) := by
          refine GW _ fun w hw => ?_
          rcases List.mem_cons.mp hw with rfl | hw
          · exact k1
          · exact hw
        refine w_call (va_runI (As := As) (rest := r) ⟨hx, hb, hml, hown, hts⟩ hM (cwI nn hts hG rfl rfl rfl (hts _ k2) (hts _ m1) (hts _ m2) m3 k3 ⟨by show d + 1 + 1 ≤ _; omega, by show 8 + (pMxl P j + 11) + 64 * (d + 1) ≤ _; omega⟩) ⟨blind _ _, fun U hU hW => pre _ U hU hW⟩ rfl e2 hL.1 rfl (lv_room hst) hdg ⟨c3, c4⟩) hS c5
    · rename_i j nn hc
      replace h := bnd_s h
      obtain ⟨⟨As, r0⟩, hpop, h⟩ := h
      replace h := oR_s h
      obtain ⟨b, r, e0, h⟩ := h
      dsimp only at e0
      subst e0
      replace h := ite_s h
      obtain ⟨⟨hvir, hst⟩, h⟩ := h
      replace h := bnd_s h
      obtain ⟨z, hz, h⟩ := h
      cases d with
      | zero => cases hz
      | succ d =>
        dsimp only at hz
        replace hz := ite_s hz
        obtain ⟨hlen, hz⟩ := hz
        obtain ⟨e1, e2⟩ := popN_s hpop
        dsimp only at e1 e2
        subst e1
        obtain ⟨c1, c2, c3, c4, c5⟩ := cgo hz h
        obtain ⟨⟨k1, k2, k3, k4, k5⟩, ⟨host, m1⟩, m2, m3, m4⟩ := gC3 _ _ _ _ hc
        have hM := rMet ih hlen k5 (show run P E lo n d j 0 (eLn (pMxl P j) (.ref b :: As)) [] μ = some (z.1, z.2) from hz)
        rw [m4] at hM k1
        have hG : GoodIn Ws (Cond.code (nam j) (cod j) (pMxl P j) none :: Ws) := by
          refine GW _ fun w hw => ?_
          rcases List.mem_cons.mp hw with rfl | hw
          · exact k1
          · exact hw
        refine w_call (va_runIN (As := As) (rest := r) ⟨hx, hb, hml, hown, hts⟩ hM ⟨va_cnB nn hts hG rfl rfl rfl (hKK.2.2.1 _ m1) (hts _ k2) k3 ⟨by show d + 1 + 1 ≤ _; omega, by show 8 + (pMxl P j + 11) + 64 * (d + 1) ≤ _; omega⟩, m3, hts _ m2⟩ ⟨blind _ _, fun U hU hW => pre _ U hU hW⟩ rfl e2 hL.1 rfl (lv_room hst) hdg ⟨c3, c4⟩) hS c5
    · rename_i j nn hc
      replace h := bnd_s h
      obtain ⟨⟨As, r0⟩, hpop, h⟩ := h
      replace h := oR_s h
      obtain ⟨b, r, e0, h⟩ := h
      dsimp only at e0
      subst e0
      replace h := ite_s h
      obtain ⟨⟨hvir, hstr, hst⟩, h⟩ := h
      cases hvir
    · rename_i x1 x2 hc
      replace h := oR_s h
      obtain ⟨b, r, e0, h⟩ := h
      subst e0
      replace h := ite_s h
      obtain ⟨⟨hvir, hst⟩, h⟩ := h
      obtain ⟨m1, m2, m3⟩ := gC4 _ _ _ _ hc
      have hst' : (r.map fun v => v.category).sum ≤ 8 := hst
      exact W.objInit hx hb hown (hts _ m1) (hts _ m2) (hts _ m3) rfl (by show Lx.size = _; rw [hL.1, hml]) rfl hdg (by omega) (by show 2 * 0 + _ + 12 ≤ _; omega) (go0 h)
    · cases h
  case invokestatic idx =>
    obtain rfl : len = 3 := of_decide_eq_true hlb
    split at h
    · rename_i j nn hc
      replace h := bnd_s h
      obtain ⟨⟨As, r⟩, hpop, h⟩ := h
      replace h := ite_s h
      obtain ⟨hst, h⟩ := h
      replace h := bnd_s h
      obtain ⟨z, hz, h⟩ := h
      cases d with
      | zero => cases hz
      | succ d =>
        dsimp only at hz
        replace hz := ite_s hz
        obtain ⟨hlen, hz⟩ := hz
        obtain ⟨e1, e2⟩ := popN_s hpop
        dsimp only at e1 e2
        subst e1
        obtain ⟨c1, c2, c3, c4, c5⟩ := cgo hz h
        obtain ⟨⟨k1, k2, k3, k4, k5⟩, m1, m2⟩ := gC1 _ _ _ _ hc
        have hM := rMet ih hlen k5 (show run P E lo n d j 0 (eLn (pMxl P j) As) [] μ = some (z.1, z.2) from hz)
        have hG : GoodIn Ws (va_wsS (nam k).cls idx (nam j) (Cond.code (nam j) (cod j) (pMxl P j) (pRet P j) :: Ws)) := by
          refine GW _ fun w hw => ?_
          simp only [va_wsS, List.mem_append, List.mem_cons, List.not_mem_nil, or_false] at hw
          rcases hw with (rfl | rfl | rfl) | rfl | hw
          · exact m1
          · exact m2
          · exact k2
          · exact k1
          · exact hw
        refine w_call (va_runS (As := As) (rest := r) ⟨hx, hb, hml, hown, hts⟩ hM (va_cwS nn hts hG rfl rfl rfl k3 ⟨by show d + 1 + 1 ≤ _; omega, by show 8 + (pMxl P j + 11) + 64 * (d + 1) ≤ _; omega⟩) ⟨blind _ _, fun U hU hW => pre _ U hU hW⟩ rfl e2 hL.1 rfl (lv_room hst) hdg ⟨c3, c4⟩) hS c5
    · rename_i x1 x2 hc
      replace h := oCp_s h
      obtain ⟨a, sp, b, dp, nn, r, e0, h⟩ := h
      subst e0
      obtain ⟨m1, m2, m3, m4⟩ := gC5 _ _ _ _ hc
      have hnf : nativeFrameWords "java/lang/System" "arraycopy" 5 ≤ 40 := by decide
      split at h
      · rename_i na nb ka kb
        replace h := ite_s h
        obtain ⟨⟨g1, g2, g3, g4, g5, g6, g7, g8, -, -, hst⟩, h⟩ := h
        have hst' : (r.map fun v => v.category).sum ≤ 8 := hst
        exact w_copy (Or.inl rfl) hx hb (by rw [hml, hL.1]) hown (hts _ m1) (hts _ m2) (hts _ m3) (hts _ m4) hHo hS (hKK.2.1 0 (gAr 0 (by decide)).1).1 ka kb g1 g2 g3 g4 g5 g6 g7 g8 (by omega) (by omega) hdg (fun H1 locs1 a1 a2 => go h a1 a2 hC hU hL)
      · rename_i na nb ka kb
        replace h := ite_s h
        obtain ⟨⟨g1, g2, g3, g4, g5, g6, g7, g8, -, -, hst⟩, h⟩ := h
        have hst' : (r.map fun v => v.category).sum ≤ 8 := hst
        exact w_copy (Or.inr rfl) hx hb (by rw [hml, hL.1]) hown (hts _ m1) (hts _ m2) (hts _ m3) (hts _ m4) hHo hS (hKK.2.1 1 (gAr 1 (by decide)).1).1 ka kb g1 g2 g3 g4 g5 g6 g7 g8 (by omega) (by omega) hdg (fun H1 locs1 a1 a2 => go h a1 a2 hC hU hL)
      · cases h
    · rename_i x1 x2 hc
      replace h := oII_s h
      obtain ⟨x, y, r, e0, h⟩ := h
      subst e0
      replace h := ite_s h
      obtain ⟨hst, h⟩ := h
      obtain ⟨m1, m2, m3, m4⟩ := gC6 _ _ _ _ hc
      have hst' : (r.map fun v => v.category).sum ≤ 8 := hst
      have e2 := run_le h
      obtain ⟨e2a, e2b⟩ := e2
      dsimp only at e2a e2b
      exact va_mmax hx hb (by rw [hml, hL.1]) hown (hts _ m1) (hts _ m2) (hts _ m3) (hts _ m4) (by omega) (by omega) (by omega) (by omega) hdg (go0 h)
    · rename_i x1 x2 hc
      replace h := oII_s h
      obtain ⟨x, y, r, e0, h⟩ := h
      subst e0
      replace h := ite_s h
      obtain ⟨hst, h⟩ := h
      obtain ⟨m1, m2, m3, m4⟩ := gC7 _ _ _ _ hc
      have hst' : (r.map fun v => v.category).sum ≤ 8 := hst
      have e2 := run_le h
      obtain ⟨e2a, e2b⟩ := e2
      dsimp only at e2a e2b
      exact va_mmin hx hb (by rw [hml, hL.1]) hown (hts _ m1) (hts _ m2) (hts _ m3) (hts _ m4) (by omega) (by omega) (by omega) (by omega) hdg (go0 h)
    · cases h
  case ireturn =>
    obtain rfl : len = 1 := of_decide_eq_true hlb
    split at h
    · rename_i x
      split at h
      · rename_i hr
        cases h
        exact hret _ _ _ _ _ _ _ _ hdg (Or.inl ⟨rfl, x, _, rfl, rfl, hr, rfl⟩) hHo hS hC hU
      · rename_i hr
        replace h := ite_s h
        obtain ⟨hx1, h⟩ := h
        cases h
        exact hret _ _ _ _ _ _ _ _ hdg (Or.inl ⟨rfl, x, _, rfl, rfl, hr, by rcases hx1 with rfl | rfl <;> decide⟩) hHo hS hC hU
      · rename_i hr
        replace h := ite_s h
        obtain ⟨hx1, h⟩ := h
        cases h
        exact hret _ _ _ _ _ _ _ _ hdg (Or.inl ⟨rfl, x, _, rfl, rfl, hr, hx1⟩) hHo hS hC hU
      · rename_i hr
        replace h := ite_s h
        obtain ⟨hx1, h⟩ := h
        cases h
        exact hret _ _ _ _ _ _ _ _ hdg (Or.inl ⟨rfl, x, _, rfl, rfl, hr, hx1⟩) hHo hS hC hU
      · cases h
    · cases h
  case lreturn =>
    obtain rfl : len = 1 := of_decide_eq_true hlb
    split at h
    · split at h
      · rename_i hr
        cases h
        exact hret _ _ _ _ _ _ _ _ hdg (Or.inr (Or.inl ⟨rfl, _, rfl, rfl, hr⟩)) hHo hS hC hU
      · cases h
    · cases h
  case areturn =>
    obtain rfl : len = 1 := of_decide_eq_true hlb
    split at h
    · split at h
      · rename_i hr
        cases h
        exact hret _ _ _ _ _ _ _ _ hdg (Or.inr (Or.inr (Or.inl ⟨rfl, _, _, rfl, rfl, hr⟩))) hHo hS hC hU
      · cases h
    · cases h
  case return_ =>
    obtain rfl : len = 1 := of_decide_eq_true hlb
    split at h
    · split at h
      · rename_i hr
        cases h
        exact hret _ _ _ _ _ _ _ _ hdg (Or.inr (Or.inr (Or.inr ⟨rfl, rfl, rfl, hr⟩))) hHo hS hC hU
      · cases h
    · cases h
theorem rSound {P : rPg} {E : (Nat → Value) × (Nat → Nat)} {cl : List vw_C} {Ws : List Cond} {cod : Nat → ByteArray} {nam : Nat → MethodName} {cn : Nat → String} {nest : List (String × Nat × MethodName × String)} {aT aoC : List Nat} {sN : Nat → String × String × String} {staL : List Nat} {sT : Nat → String × Nat × String} {strL : List Nat} {D : va_G} {dA : Nat → ClassId} {lo : Nat} {l : Launch} (G : rOK P cl Ws cod nam cn nest aT aoC sN staL sT strL) : ∀ n : Nat, rWalk P E cl Ws cod nam cn nest aT aoC sN staL sT strL D dA lo l n
  | 0 => fun _ _ _ _ _ _ _ _ h => by cases h
  | n + 1 => rStep G (rSound G n)
