/-! NEW CELLS, arraycopy, calls -/
section WROWS2
variable {P : rPg} {cl : List vw_C} {Ws : List Cond} {cn : Nat → String} {D : va_G} {dA : Nat → ClassId} {lo : Nat}
variable {p : Program} {l : Launch} {e : Env} {R : Room} {s : State} {m : MethodId} {args : Array Value} {below : List Frame} {meth : Method} {c : Code} {H : Heap} {locs : List Loc} {cells slots : Nat} {Q : State → Prop} {pc : Nat} {Lx : Array Slot} {r : List Value} {μ μ1 : rM} {a : Nat} {cc : ByteArray} {ow : String}
theorem nw_at (μ : rM) (kd : rKd) (n j : Nat) : ri (nw μ kd n) (rz μ) j = 0 ∧ rr (nw μ kd n) (rz μ) j = none ∧ rl (nw μ kd n) (rz μ) j = 0 := by
  refine ⟨?_, ?_, ?_⟩
  · show (if rz μ = rz μ then _ else _) = _
    rw [if_pos rfl]
  · show (if rz μ = rz μ then _ else _) = _
    rw [if_pos rfl]
  · show (if rz μ = rz μ then _ else _) = _
    rw [if_pos rfl]
theorem rTv_def {ty : FieldType} (h : rTyOK ty = true) : defaultValue ty = rTv ty 0 none 0 := by
  cases ty <;> first | rfl | (cases h)
theorem w_new (hx : p.tables.exec = Jvm.exec) (hb : c.code = cc) (hown : s.vm.findClass ow = some m.cls) (hts : ∀ w ∈ Ws, w.before args s = true) (hK : ∀ c (q : vw_C), cl[c]? = some q → u_Kn s q.1 q.2.1 q.2.2 (D.1 c) (D.2 c)) (hHo : rHo P cl D dA cn lo s H μ) (hS0 : va_S (fun q => lo ≤ q) s.heap H locs) {ci idx : Nat} {q : vw_C} (hcs : ci ≠ strC) (hq : cl[ci]? = some q) (hin : ∀ w ∈ u_ws q.1 q.2.1 q.2.2, w ∈ Ws)
    (hty : ∀ f, f < q.2.2 → parseFieldDescriptor (q.2.1 f).2.2.1 = some (pTyF P ci f)) (hto : ∀ f, f < q.2.2 → rTyOK (pTyF P ci f) = true) (hcl : Cond.classLink ow idx q.1 ∈ Ws) (hins : Cond.instantiable q.1 q.2.2 ∈ Ws) (hini : Cond.initialized q.1 ∈ Ws) (hN : q.2.2 = pNfl P ci) (hcells : cells + 1 ≤ R.cells) (hslots : slots + pNfl P ci ≤ R.slots) (hdg : decode cc pc = .ok (.new idx, 3))
    (kk : ∀ (H1 : Heap), rHo P cl D dA cn lo s H1 (nw μ (.inl ci) (pNfl P ci)) → va_S (fun q => lo ≤ q) s.heap H1 locs → W p l e R s m args below meth c H1 locs (cells + 1) (slots + pNfl P ci) Q (F0 m (pc + 3) Lx (.ref (rz μ) :: r))) : W p l e R s m args below meth c H locs cells slots Q (F0 m pc Lx r) := by
  have hKn := hK ci q hq
  rw [← hN] at hslots kk
  refine W.newcK hx hb hown (hts _ hcl) (hts _ hins) (hts _ hini) rfl hdg hcells hslots hKn.2.1 hHo.1 fun H1 kC hkC e1 z1 o1 => ?_
  refine kk H1 (hHo.new (by rw [z1, hHo.1]) (fun q hq => o1 q (by rw [← hHo.1]; exact hq)) ?_) ⟨Nat.le_trans hS0.1 (by rw [z1, hHo.1]; omega), fun x h1 h2 => (o1 x (by rw [← hHo.1]; exact Nat.lt_of_lt_of_le h1 hS0.1)).trans (hS0.2.1 x h1 h2), hS0.2.2⟩
  simp only [rCell, if_neg hcs]
  refine ⟨q, hq, (u_born (pTyF P ci) hts hin hKn hkC e1 hty).to fun j hj => ?_⟩
  rw [(nw_at μ (.inl ci) q.2.2 j).1, (nw_at μ (.inl ci) q.2.2 j).2.1, (nw_at μ (.inl ci) q.2.2 j).2.2]
  exact rTv_def (hto j hj)
/-- a new array's cell -/
theorem rHo.newA {H1 : Heap} {t n : Nat} (hHo : rHo P cl D dA cn lo s H μ) (hA : ArrOfT s (dA t) (rAty cn t)) (hn : n < 2 ^ 31) (hfit : fits (rAty cn t) (rTv (rAty cn t) 0 none 0) = true) (hz : H1.size = H.size + 1) (hq : ∀ q, q < H.size → H1[q]? = H[q]?) (hc : H1[rz μ]? = some (arrV (dA t) n (fun _ => rTv (rAty cn t) 0 none 0))) : rHo P cl D dA cn lo s H1 (nw μ (.inr (t, n)) n) := by
  have hV : (fun _ : Nat => rTv (rAty cn t) 0 none 0) = fun j => rTv (rAty cn t) (ri (nw μ (.inr (t, n)) n) (rz μ) j) (rr (nw μ (.inr (t, n)) n) (rz μ) j) (rl (nw μ (.inr (t, n)) n) (rz μ) j) := by
    funext j
    rw [(nw_at μ (.inr (t, n)) n j).1, (nw_at μ (.inr (t, n)) n j).2.1, (nw_at μ (.inr (t, n)) n j).2.2]
  refine hHo.new hz hq ⟨_, hc, hA n _, (fun h => by cases h), ⟨Nat.le_of_eq (arrV_size _ _ _).symm, by rw [arrV_size]⟩, hn, fun j hj => ⟨?_, ?_⟩, fun _ => ?_⟩
  · rw [arrV_read _ _ hj]
    exact congrArg some (congrFun hV j)
  · have := congrFun hV j
    rw [← this]
    exact hfit
  · rw [hV]
theorem w_newa (hx : p.tables.exec = Jvm.exec) (hb : c.code = cc) (hts : ∀ w ∈ Ws, w.before args s = true) (hHo : rHo P cl D dA cn lo s H μ) (hS0 : va_S (fun q => lo ≤ q) s.heap H locs) {at0 : ArrayType} {t : Nat} (ht : rAt0 at0 = some t) (hA : ArrOfT s (dA t) (rAty cn t) ∧ va_RA s (dA t) (rAty cn t)) (hac : Cond.arrayClass (rAty cn t) ∈ Ws) {n : Int32} (hn : 0 ≤ n ∧ n.toNatClampNeg ≤ 1000000) (hcells : cells + 1 ≤ R.cells) (hslots : slots + n.toNatClampNeg ≤ R.slots) (hdg : decode cc pc = .ok (.newarray at0, 2))
    (kk : ∀ (H1 : Heap), rHo P cl D dA cn lo s H1 (nw μ (.inr (t, n.toNatClampNeg)) n.toNatClampNeg) → va_S (fun q => lo ≤ q) s.heap H1 locs → W p l e R s m args below meth c H1 locs (cells + 1) (slots + n.toNatClampNeg) Q (F0 m (pc + 2) Lx (.ref (rz μ) :: r))) : W p l e R s m args below meth c H locs cells slots Q (F0 m pc Lx (.int n :: r)) := by
  have hty : newarray.typeOf at0 = rAty cn t := by
    cases at0 <;> first | (cases ht; rfl) | (cases ht)
  have hbytes : n.toNatClampNeg * componentBytes (newarray.typeOf at0) ≤ 536870912 := by
    have : componentBytes (newarray.typeOf at0) ≤ 8 := by cases at0 <;> decide
    have h2 := Nat.mul_le_mul hn.2 this
    omega
  have hdv : defaultValue (rAty cn t) = rTv (rAty cn t) 0 none 0 ∧ fits (rAty cn t) (rTv (rAty cn t) 0 none 0) = true := by
    cases at0 <;> first | (cases ht; exact ⟨rfl, rfl⟩) | (cases ht)
  have hnm : s.vm.findClass ("[" ++ (rAty cn t).toString) = some (dA t) := by
    cases at0 <;> first | (cases ht; exact hA.2) | (cases ht)
  refine va_newaK hx hb (by rw [hty]; exact hts _ hac) rfl hdg rfl (Int32.not_lt.mpr hn.1) rfl hbytes hcells hslots hHo.1 fun H1 cA e1 z1 o1 hAr hNm => ?_
  rw [hty] at e1 hNm
  have hcA : cA = dA t := Option.some.inj (hNm.symm.trans hnm)
  subst hcA
  rw [hdv.1] at e1
  exact kk H1 (hHo.newA hA.1 (by omega) hdv.2 (by rw [z1, hHo.1]) (fun q hq => o1 q (by rw [← hHo.1]; exact hq)) e1) ⟨Nat.le_trans hS0.1 (by rw [z1, hHo.1]; omega), fun x h1 h2 => (o1 x (by rw [← hHo.1]; exact Nat.lt_of_lt_of_le h1 hS0.1)).trans (hS0.2.1 x h1 h2), hS0.2.2⟩
theorem w_anew (hx : p.tables.exec = Jvm.exec) (hb : c.code = cc) (hown : s.vm.findClass ow = some m.cls) (hts : ∀ w ∈ Ws, w.before args s = true) (hHo : rHo P cl D dA cn lo s H μ) (hS0 : va_S (fun q => lo ≤ q) s.heap H locs) {t idx : Nat} (hA : ArrOfT s (dA (t + 4)) (rAty cn (t + 4)) ∧ va_RA s (dA (t + 4)) (rAty cn (t + 4))) (hcl : Cond.classLink ow idx (cn t) ∈ Ws) (hao : va_AO (cn t) s) {n : Int32} (hn : 0 ≤ n ∧ n.toNatClampNeg ≤ 1000000) (hcells : cells + 1 ≤ R.cells) (hslots : slots + n.toNatClampNeg ≤ R.slots) (hdg : decode cc pc = .ok (.anewarray idx, 3))
    (kk : ∀ (H1 : Heap), rHo P cl D dA cn lo s H1 (nw μ (.inr (t + 4, n.toNatClampNeg)) n.toNatClampNeg) → va_S (fun q => lo ≤ q) s.heap H1 locs → W p l e R s m args below meth c H1 locs (cells + 1) (slots + n.toNatClampNeg) Q (F0 m (pc + 3) Lx (.ref (rz μ) :: r))) : W p l e R s m args below meth c H locs cells slots Q (F0 m pc Lx (.int n :: r)) := by
  refine W.anew hx hb hown (hts _ hcl) (va_AO.use hao) rfl hdg rfl (Int32.not_lt.mpr hn.1) (by omega) hcells hslots fun cA kA comp h1 h2 h3 h4 => ?_
  obtain ⟨kB, cmp2, k1, k2, k3, k4⟩ := hA.2
  have hcA : cA = dA (t + 4) := Option.some.inj (h1.symm.trans k4)
  subst hcA
  rw [arrV_new, hHo.1]
  have o1 : ∀ q, q < H.size → (H.push (arrV (dA (t + 4)) n.toNatClampNeg fun _ => .null))[q]? = H[q]? := fun q hq => by
    rw [Array.getElem?_push, if_neg (Nat.ne_of_lt hq)]
  exact kk _ (hHo.newA hA.1 (by omega) rfl (by simp) o1 (by rw [← hHo.1]; simp; rfl)) ⟨Nat.le_trans hS0.1 (by simp), fun x h1 h2 => (o1 x (Nat.lt_of_lt_of_le h1 hS0.1)).trans (hS0.2.1 x h1 h2), hS0.2.2⟩
theorem cp_ne {μ : rM} {a sp b dp n q : Nat} (h : q ≠ b) (j : Nat) : ri (cp μ a sp b dp n) q j = ri μ q j := by
  show (if q = b then _ else _) = _
  rw [if_neg h]; rfl
theorem cp_at {μ : rM} {a sp b dp n : Nat} (j : Nat) : ri (cp μ a sp b dp n) b j = va_cpy (ri μ a) (ri μ b) sp dp n j := by
  show (if b = b then _ else _) = _
  rw [if_pos rfl]; rfl
theorem w_copy {t : Nat} (ht : t = 0 ∨ t = 1) (hx : p.tables.exec = Jvm.exec) (hb : c.code = cc) (hml : c.maxLocals = Lx.size) {idx : Nat} (hown : s.vm.findClass ow = some m.cls) (hlink : (Cond.methodLink ow idx arraycopyName).before args s = true) (hnat : (Cond.native arraycopyName).before args s = true) (hstat : (Cond.static arraycopyName).before args s = true) (hini : (Cond.initialized "java/lang/System").before args s = true)
    (hHo : rHo P cl D dA cn lo s H μ) (hS0 : va_S (fun q => lo ≤ q) s.heap H locs) (hA : ArrOfT s (dA t) (rAty cn t)) {b na nb : Nat} (hka : rk μ a = some (.inr (t, na))) (hkb : rk μ b = some (.inr (t, nb))) (hla : lo ≤ a) (hlb : lo ≤ b) (hab : a ≠ b) {sp dp n : Int32} (h1 : 0 ≤ sp) (h2 : 0 ≤ dp) (h3 : 0 ≤ n) (h4 : sp.toNatClampNeg + n.toNatClampNeg ≤ na) (h5 : dp.toNatClampNeg + n.toNatClampNeg ≤ nb)
    (hframes : 1 ≤ R.frames) (hlocals : (r.map fun v => v.category).sum + (nativeFrameWords "java/lang/System" "arraycopy" 5 + 11) ≤ R.locals) (hdg : decode cc pc = .ok (.invokestatic idx, 3))
    (kk : ∀ (H1 : Heap) (locs1 : List Loc), rHo P cl D dA cn lo s H1 (cp μ a sp.toNatClampNeg b dp.toNatClampNeg n.toNatClampNeg) → va_S (fun q => lo ≤ q) s.heap H1 locs1 → W p l e R s m args below meth c H1 locs1 cells slots Q (F0 m (pc + 3) Lx r)) : W p l e R s m args below meth c H locs cells slots Q (F0 m pc Lx (.int n :: .int dp :: .ref b :: .int sp :: .ref a :: r)) := by
  have nn : ∀ z : Int32, 0 ≤ z → z.toInt = (z.toNatClampNeg : Int) := by
    intro z hz
    have hz0 : (0 : Int) ≤ z.toInt := by
      simpa using Int32.le_iff_toInt_le.mp hz
    show z.toInt = ((z.toInt.toNat : Nat) : Int)
    omega
  have hrt : ∀ x rr0 l0, rTv (rAty cn t) x rr0 l0 = .int x := by
    intro x rr0 l0
    rcases ht with rfl | rfl <;> rfl
  obtain ⟨ca, a1, a2, a3, a4, a5, a6, a7⟩ := hHo.2.2 a _ hka
  obtain ⟨cb, b1, b2, b3, b4, b5, b6, b7⟩ := hHo.2.2 b _ hkb
  have a7 := a7 hla
  have b7 := b7 hlb
  simp only [hrt] at a6 a7 b6 b7
  have hc0 : H[a]? = some (vp_cell (dA t) (na, .inl (ri μ a))) := by rw [a1, a7]; rfl
  have hc1 : H[b]? = some (vp_cell (dA t) (nb, .inl (ri μ b))) := by rw [b1, b7]; rfl
  intro T hT X
  obtain ⟨-, k0, hk0, cm0, hkk0⟩ := hA na (fun j => .int (ri μ a j))
  obtain ⟨-, k1, hk1, cm1, hkk1⟩ := hA nb (fun j => .int (ri μ b j))
  have hprim : refKind (rAty cn t) = false := by rcases ht with rfl | rfl <;> rfl
  have nl : ∀ z : Int32, 0 ≤ z → ¬ z < 0 := fun z h => Int32.not_lt.mpr h
  obtain ⟨vm', X', step⟩ := X.arraycopy hx hown hlink hnat hstat hini (src := a) (dst := b) (cs := vp_cell (dA t) (na, .inl (ri μ a))) (cd := vp_cell (dA t) (nb, .inl (ri μ b))) (srcPos := sp) (destPos := dp) (n := n) (by rw [hT]; exact hc0) (by rw [hT]; exact hc1)
    (fun _ h => by cases h) (fun _ h => by cases h) (fun h => by cases h) (fun h => by cases h) hk0 hk1 hkk0 hkk1 (by simp [hprim]) (nl _ h1) (nl _ h2) (nl _ h3)
    (by rw [nn sp h1, nn n h3]; show ¬ _ > ((arrV (dA t) na (fun j => .int (ri μ a j))).slots.size : Int); rw [arrV_size]; omega)
    (by rw [nn dp h2, nn n h3]; show ¬ _ > ((arrV (dA t) nb (fun j => .int (ri μ b j))).slots.size : Int); rw [arrV_size]; omega)
    (fun vm₁ _ i hi => by
      have e : (vp_cell (dA t) (na, .inl (ri μ a))).slots.getD (sp.toNatClampNeg + i) .null = .int (ri μ a (sp.toNatClampNeg + i)) := by
        show (arrV (dA t) na (fun j => .int (ri μ a j))).slots.getD _ _ = _
        rw [Array.getD_eq_getD_getElem?, arrV_read _ _ (by omega)]
        rfl
      refine ⟨?_, ?_⟩
      · rw [e]
        exact (a6 _ (by omega)).2
      · rw [e]
        exact trivial)
    (g := F0 m pc Lx (.int n :: .int dp :: .ref b :: .int sp :: .ref a :: r)) rfl (by rw [hml]) (rest := r) rfl (by rw [hb]; exact hdg) hframes (by show 2 * 0 + _ + _ ≤ _; omega)
  have e1 : copied (vp_cell (dA t) (na, .inl (ri μ a))) (vp_cell (dA t) (nb, .inl (ri μ b))) sp dp n = vp_cell (dA t) (nb, .inl (va_cpy (ri μ a) (ri μ b) sp.toNatClampNeg dp.toNatClampNeg n.toNatClampNeg)) := va_copied (fun z => .int z) (dA t) (dA t) (ri μ a) (ri μ b) h4
  rw [e1] at X' step
  have hl : b < H.size := (Array.getElem?_eq_some_iff.mp hc1).1
  have hheap : ((T.setVm vm').setCell b (vp_cell (dA t) (nb, .inl (va_cpy (ri μ a) (ri μ b) sp.toNatClampNeg dp.toNatClampNeg n.toNatClampNeg)))).heap = H.setIfInBounds b (vp_cell (dA t) (nb, .inl (va_cpy (ri μ a) (ri μ b) sp.toNatClampNeg dp.toNatClampNeg n.toNatClampNeg))) := by rw [← hT]; rfl
  have oq : ∀ q : Nat, q ≠ b → (H.setIfInBounds b (vp_cell (dA t) (nb, .inl (va_cpy (ri μ a) (ri μ b) sp.toNatClampNeg dp.toNatClampNeg n.toNatClampNeg))))[q]? = H[q]? := fun q hq => by simp [Array.getElem?_setIfInBounds, Ne.symm hq]
  have hat : (H.setIfInBounds b (vp_cell (dA t) (nb, .inl (va_cpy (ri μ a) (ri μ b) sp.toNatClampNeg dp.toNatClampNeg n.toNatClampNeg))))[b]? = some (arrV (dA t) nb (fun j => .int (va_cpy (ri μ a) (ri μ b) sp.toNatClampNeg dp.toNatClampNeg n.toNatClampNeg j))) := by simp [Array.getElem?_setIfInBounds, hl]; rfl
  have hnew : rHo P cl D dA cn lo s (H.setIfInBounds b (vp_cell (dA t) (nb, .inl (va_cpy (ri μ a) (ri μ b) sp.toNatClampNeg dp.toNatClampNeg n.toNatClampNeg)))) (cp μ a sp.toNatClampNeg b dp.toNatClampNeg n.toNatClampNeg) := by
    refine hHo.set (a := b) (by simp) oq rfl (fun _ => rfl) (fun q hq j => cp_ne hq j) (fun _ _ _ => rfl) (fun _ _ _ => rfl) hkb ?_
    refine ⟨_, hat, hA nb _, (fun h => by cases h), ⟨Nat.le_of_eq (arrV_size _ _ _).symm, by rw [arrV_size]⟩, b5, fun j hj => ?_, fun _ => ?_⟩
    · rw [hrt, cp_at, arrV_read _ _ hj]
      refine ⟨rfl, ?_⟩
      unfold va_cpy
      split
      · exact (a6 _ (by omega)).2
      · exact (b6 j hj).2
    · congr 1
      funext j
      rw [hrt, cp_at]
  obtain ⟨t1, x1, y1⟩ := kk _ _ hnew ⟨by simp; exact hS0.1, fun q g1 g2 => by
      rw [oq q (fun e => g2 (by rw [e]; exact hlb))]
      exact hS0.2.1 q g1 g2, fun q hq => by
      rcases List.mem_append.mp hq with h | h
      · exact hS0.2.2 q h
      · obtain ⟨z, -, hz⟩ := List.mem_map.mp h
        rw [← hz]
        exact hlb⟩ _ hheap X'
  exact ⟨t1, step t1 x1, y1⟩
/-- behind a call -/
theorem w_call {v : Option Value} {mc ms : Nat} {st0 : List Value} (hr : va_Run p l e R s m args below meth c H locs cells slots mc ms (F0 m pc Lx st0) r (fun st oc t => oc = .returned v ∧ rHo P cl D dA cn lo t t.heap μ1 ∧ va_F (fun q => lo ≤ q) st t) (fun q => lo ≤ q)) (hS0 : va_S (fun q => lo ≤ q) s.heap H locs)
    (kk : ∀ (H1 : Heap) (locs1 : List Loc), rHo P cl D dA cn lo s H1 μ1 → va_S (fun q => lo ≤ q) s.heap H1 locs1 → W p l e R s m args below meth c H1 locs1 (cells + mc) (slots + ms) Q (F0 m (pc + 3) Lx (v.toList ++ r))) : W p l e R s m args below meth c H locs cells slots Q (F0 m pc Lx st0) := by
  intro T hT X
  obtain ⟨v', st₀, t, T', L, h0, X', hL, e1, e2, ⟨hv, hho, hz, hk⟩, st⟩ := hr T hT X
  cases hv
  rw [h0] at hz hk
  have hal : s.vm.Alike t.vm := by rw [← e2]; exact X'.warmed.alike
  obtain ⟨t2, a1, b1⟩ := kk T'.heap (locs ++ L) (by rw [e1]; exact hho.moved hal.symm)
    ⟨Nat.le_trans hS0.1 (by rw [e1]; exact hz), fun q h1 h2 => by rw [e1, hk q (Nat.lt_of_lt_of_le h1 hS0.1) h2]; exact hS0.2.1 q h1 h2, fun q hq => by
      rcases List.mem_append.mp hq with h | h
      · exact hS0.2.2 q h
      · exact hL q h⟩ T' rfl X'
  exact ⟨t2, st t2 a1, b1⟩
end WROWS2
