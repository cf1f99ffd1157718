/-! ROWS OVER THE MACHINE for the instructions that touch the memory -/
section WROWS
variable {P : rPg} {cl : List vw_C} {Ws : List Cond} {cn : Nat → String} {D : va_G} {dA : Nat → ClassId} {lo : Nat}
variable {p : Program} {l : Launch} {e : Env} {R : Room} {s : State} {m : MethodId} {args : Array Value} {below : List Frame} {meth : Method} {c : Code} {H : Heap} {locs : List Loc} {cells slots : Nat} {Q : State → Prop} {pc : Nat} {Lx : Array Slot} {r : List Value} {μ μ1 : rM} {a : Nat} {cc : ByteArray} {ow : String}
theorem w_getf (hx : p.tables.exec = Jvm.exec) (hb : c.code = cc) (hown : s.vm.findClass ow = some m.cls) (hts : ∀ w ∈ Ws, w.before args s = true) (hK : ∀ c (q : vw_C), cl[c]? = some q → u_Kn s q.1 q.2.1 q.2.2 (D.1 c) (D.2 c)) (hHo : rHo P cl D dA cn lo s H μ) {ci f idx : Nat} {q : vw_C} (hcs : ci ≠ strC) (hq : cl[ci]? = some q) (hin : ∀ w ∈ u_ws q.1 q.2.1 q.2.2, w ∈ Ws) (hf : f < q.2.2) (hl : Cond.fieldLink ow idx (q.2.1 f).1 (q.2.1 f).2.1 (q.2.1 f).2.2.1 ∈ Ws) (hk : rk μ a = some (.inl ci)) (hdg : decode cc pc = .ok (.getfield idx, 3))
    (kk : W p l e R s m args below meth c H locs cells slots Q (F0 m (pc + 3) Lx (rTv (pTyF P ci f) (ri μ a f) (rr μ a f) (rl μ a f) :: r))) : W p l e R s m args below meth c H locs cells slots Q (F0 m pc Lx (.ref a :: r)) := by
  have h := hHo.2.2 a _ hk
  simp only [rCell, if_neg hcs] at h
  obtain ⟨q', h1, cell, q1, q2, q3, q4⟩ := h
  have hqq : q' = q := Option.some.inj (h1.symm.trans hq)
  subst hqq
  obtain ⟨hS, hfc, kC, hkC, hkind⟩ := hK ci q' hq
  obtain ⟨cf, kf, fi, fd, hi, hsl⟩ := hS f hf
  refine W.getf hx hb hown (hts _ hl) hi (u_facts hfc hkC (u_lays hts hin hf) hi).1 q1 (by rw [q3]; exact fun h => by cases h) (v := rTv (pTyF P ci f) (ri μ a f) (rr μ a f) (rl μ a f)) ?_ rfl rfl hdg kk
  rw [hsl, q4 f hf]
theorem w_getS (hx : p.tables.exec = Jvm.exec) (hb : c.code = cc) (hown : s.vm.findClass ow = some m.cls) {idx : Nat} {n d : String} {v : Value} (hl : (Cond.fieldLink ow idx "java/lang/String" n d).before args s = true) (hO : va_OF "java/lang/String" n d v a (fun q => lo ≤ q) s H) (hdg : decode cc pc = .ok (.getfield idx, 3))
    (kk : W p l e R s m args below meth c H locs cells slots Q (F0 m (pc + 3) Lx (v :: r))) : W p l e R s m args below meth c H locs cells slots Q (F0 m pc Lx (.ref a :: r)) := by
  obtain ⟨cf, k, i, f, cell, h1, h2, h3, h4, h5, -⟩ := hO
  exact W.getf hx hb hown hl h1 h2 h3 h4 h5 rfl rfl hdg kk
theorem w_putf (hx : p.tables.exec = Jvm.exec) (hb : c.code = cc) (hown : s.vm.findClass ow = some m.cls) (hts : ∀ w ∈ Ws, w.before args s = true) (hK : ∀ c (q : vw_C), cl[c]? = some q → u_Kn s q.1 q.2.1 q.2.2 (D.1 c) (D.2 c)) (hHo : rHo P cl D dA cn lo s H μ) (hS0 : va_S (fun q => lo ≤ q) s.heap H locs) {ci f idx : Nat} {q : vw_C} (hcs : ci ≠ strC) (hq : cl[ci]? = some q) (hin : ∀ w ∈ u_ws q.1 q.2.1 q.2.2, w ∈ Ws)
    (hnm : ∀ a, a < q.2.2 → ∀ b, b < q.2.2 → a ≠ b → (q.2.1 a).2.1 ≠ (q.2.1 b).2.1) (hty : ∀ f, f < q.2.2 → parseFieldDescriptor (q.2.1 f).2.2.1 = some (pTyF P ci f)) (hf : f < q.2.2) (hl : Cond.fieldLink ow idx (q.2.1 f).1 (q.2.1 f).2.1 (q.2.1 f).2.2.1 ∈ Ws) (hfin : (q.2.1 f).2.2.2 = false ∨ ((q.2.1 f).2.2.2 = true ∧ meth.name = "<init>" ∧ (q.2.1 f).1 = ow)) (hk : rk μ a = some (.inl ci)) (hlo : lo ≤ a) {v : Value} (hv : rPut (pTyF P ci f) μ a f v = some μ1) (hdg : decode cc pc = .ok (.putfield idx, 3))
    (kk : ∀ (H1 : Heap) (locs1 : List Loc), rHo P cl D dA cn lo s H1 μ1 → va_S (fun q => lo ≤ q) s.heap H1 locs1 → W p l e R s m args below meth c H1 locs1 cells slots Q (F0 m (pc + 3) Lx r)) : W p l e R s m args below meth c H locs cells slots Q (F0 m pc Lx (v :: .ref a :: r)) := by
  have hKv : va_K D cl [] s := ⟨hK, fun k q h => by simp at h⟩
  have hap := va_apart (own := ow) hts hin (pTyF P ci) hty hnm hKv hq
  have h := hHo.2.2 a _ hk
  simp only [rCell, if_neg hcs] at h
  obtain ⟨q', h1, cell, q1, q2, q3, q4⟩ := h
  have hqq : q' = q := Option.some.inj (h1.symm.trans hq)
  subst hqq
  obtain ⟨hS, hfc, kC, hkC, hkind⟩ := hK ci q' hq
  obtain ⟨cf, kf, fi, fd, hi, hsl⟩ := hS f hf
  have hlay := hts _ (hin _ (u_in_lay hf))
  unfold u_lay at hlay
  have hst := (u_facts hfc hkC (u_lays hts hin hf) hi).1
  obtain ⟨hn, hfit, ek, e1, e2, e3, e4, e5⟩ := rPut_sp hv
  have fin : ∀ H' : Heap, H'[a]? = some (cell.setSlot (D.2 ci f) v) → H'.size = H.size → (∀ q, q ≠ a → H'[q]? = H[q]?) → rHo P cl D dA cn lo s H' μ1 := by
    intro H' g1 g2 g3
    refine hHo.set g2 g3 (rPut_le hv).1 ek e1 e2 e3 hk ?_
    simp only [rCell, if_neg hcs]
    refine ⟨q', hq, t_OB.to (V := updV (fun k => rTv (pTyF P ci k) (ri μ a k) (rr μ a k) (rl μ a k)) f v) ⟨_, g1, q2, q3, t_set q4 hap hf v⟩ (fun j hj => ?_)⟩
    unfold updV
    split
    · rename_i hjf
      subst hjf
      exact e5.symm
    · rename_i hjf
      rw [(e4 j hjf).1, (e4 j hjf).2.1, (e4 j hjf).2.2]
  rcases hfin with hfin | ⟨hfin, hini, hdecl⟩
  · rw [if_neg (by rw [hfin]; decide)] at hlay
    have h6 := u_store hfc hkC hkind hlay hi (hty f hf) hn hfit
    refine W.putK hx hb (f := fd) ⟨hown, hts _ hl, ⟨_, _, _, hi⟩, hst⟩ (by rw [q2]; exact h6) q1 q3 (by rw [hsl]; exact k2_hasslot (q4 f hf)) rfl rfl hdg fun H' g1 g2 g3 => ?_
    rw [hsl] at g1 ⊢
    exact kk H' _ (fin H' g1 g2 g3) (hS0.put g2 g3 hlo)
  · rw [if_pos hfin] at hlay
    have hcf : m.cls = cf := by
      obtain ⟨_, _, c', _, _, _, -, -, hf', -, -, -, hown2, -⟩ := Cond.laysFinal_spec hlay
      have e1 : c' = cf := by have := hi.symm.trans hf'; simp at this; exact this.1.symm
      rw [hdecl] at hown2
      rw [← e1]; exact Option.some.inj (hown.symm.trans hown2)
    have h6 := u_fits hfc hkC hkind (Or.inr hlay) hi (hty f hf) hn hfit
    refine W.putFinK hx hb hown (hts _ hl) hi hst hcf hini (by rw [q2]; exact h6) q1 q3 (by rw [hsl]; exact k2_hasslot (q4 f hf)) rfl rfl hdg fun H' g1 g2 g3 => ?_
    rw [hsl] at g1 ⊢
    exact kk H' _ (fin H' g1 g2 g3) (hS0.put g2 g3 hlo)
/-- an array's cell after a store -/
theorem rHo.ast {H1 : Heap} {t n j : Nat} {v : Value} (hHo : rHo P cl D dA cn lo s H μ) (hk : rk μ a = some (.inr (t, n))) (hlo : lo ≤ a) (hz : H1.size = H.size) (oq : ∀ q, q ≠ a → H1[q]? = H[q]?) (ez : rz μ1 = rz μ) (ek : ∀ b, rk μ1 b = rk μ b) (e1 : ∀ b, b ≠ a → ∀ i, ri μ1 b i = ri μ b i) (e2 : ∀ b, b ≠ a → ∀ i, rr μ1 b i = rr μ b i) (e3 : ∀ b, b ≠ a → ∀ i, rl μ1 b i = rl μ b i)
    (e4 : ∀ i, i ≠ j → ri μ1 a i = ri μ a i ∧ rr μ1 a i = rr μ a i ∧ rl μ1 a i = rl μ a i) (e5 : rTv (rAty cn t) (ri μ1 a j) (rr μ1 a j) (rl μ1 a j) = v) (hfit : fits (rAty cn t) v = true) {cell : Cell} (hc : H[a]? = some cell) (hs : H1[a]? = some (cell.setSlot j v)) : rHo P cl D dA cn lo s H1 μ1 := by
  obtain ⟨cell', q1, q2, q3, q4, q5, q6, q7⟩ := hHo.2.2 a _ hk
  have hcc : cell' = cell := Option.some.inj (q1.symm.trans hc)
  subst hcc
  have hV : updV (fun j => rTv (rAty cn t) (ri μ a j) (rr μ a j) (rl μ a j)) j v = fun j => rTv (rAty cn t) (ri μ1 a j) (rr μ1 a j) (rl μ1 a j) := by
    funext i
    unfold updV
    split
    · rename_i h
      subst h
      exact e5.symm
    · rename_i h
      rw [(e4 i h).1, (e4 i h).2.1, (e4 i h).2.2]
  have hce : cell'.setSlot j v = arrV (dA t) n (fun j => rTv (rAty cn t) (ri μ1 a j) (rr μ1 a j) (rl μ1 a j)) := by
    rw [q7 hlo, arrV_store, hV]
  refine hHo.set hz oq ez ek e1 e2 e3 hk ⟨_, hs, ?_, ?_, ?_, q5, ?_, fun _ => hce⟩
  · rw [hce]
    rw [q7 hlo] at q2
    exact q2
  · rw [hce]
    exact fun h => by cases h
  · rw [hce, arrV_size]
    exact ⟨Nat.le_refl _, rfl⟩
  · intro i hi
    refine ⟨by rw [hce, arrV_read _ _ hi], ?_⟩
    by_cases h : i = j
    · subst h
      rw [e5]
      exact hfit
    · rw [(e4 i h).1, (e4 i h).2.1, (e4 i h).2.2]
      exact (q6 i hi).2
theorem wi_sp (μ : rM) (a j : Nat) (x : Int32) : (∀ b, b ≠ a → ∀ i, ri (wi μ a j x) b i = ri μ b i) ∧ (∀ i, i ≠ j → ri (wi μ a j x) a i = ri μ a i ∧ rr (wi μ a j x) a i = rr μ a i ∧ rl (wi μ a j x) a i = rl μ a i) ∧ ri (wi μ a j x) a j = x :=
  ⟨fun b hb i => up2_ne hb i, fun i hi => ⟨by show up2 _ _ _ _ _ _ = _; rw [up2_at, if_neg hi]; rfl, rfl, rfl⟩, by show up2 _ _ _ _ _ _ = _; rw [up2_at, if_pos rfl]⟩
theorem wr_sp (μ : rM) (a j : Nat) (x : Option Nat) : (∀ b, b ≠ a → ∀ i, rr (wr μ a j x) b i = rr μ b i) ∧ (∀ i, i ≠ j → ri (wr μ a j x) a i = ri μ a i ∧ rr (wr μ a j x) a i = rr μ a i ∧ rl (wr μ a j x) a i = rl μ a i) ∧ rr (wr μ a j x) a j = x :=
  ⟨fun b hb i => up2_ne hb i, fun i hi => ⟨rfl, by show up2 _ _ _ _ _ _ = _; rw [up2_at, if_neg hi]; rfl, rfl⟩, by show up2 _ _ _ _ _ _ = _; rw [up2_at, if_pos rfl]⟩
theorem wl_sp (μ : rM) (a j : Nat) (x : Int64) : (∀ b, b ≠ a → ∀ i, rl (wl μ a j x) b i = rl μ b i) ∧ (∀ i, i ≠ j → ri (wl μ a j x) a i = ri μ a i ∧ rr (wl μ a j x) a i = rr μ a i ∧ rl (wl μ a j x) a i = rl μ a i) ∧ rl (wl μ a j x) a j = x :=
  ⟨fun b hb i => up2_ne hb i, fun i hi => ⟨rfl, rfl, by show up2 _ _ _ _ _ _ = _; rw [up2_at, if_neg hi]; rfl⟩, by show up2 _ _ _ _ _ _ = _; rw [up2_at, if_pos rfl]⟩
theorem w_iald {n : Nat} {i : Int32} (hx : p.tables.exec = Jvm.exec) (hb : c.code = cc) (hHo : rHo P cl D dA cn lo s H μ) (hk : rk μ a = some (.inr (0, n))) (hi : aIn i n = true) (hdg : decode cc pc = .ok (.iaload, 1))
    (kk : W p l e R s m args below meth c H locs cells slots Q (F0 m (pc + 1) Lx (.int (ri μ a i.toNatClampNeg) :: r))) : W p l e R s m args below meth c H locs cells slots Q (F0 m pc Lx (.int i :: .ref a :: r)) := by
  obtain ⟨cell, q1, q2, q3, q4, q5, q6, q7⟩ := hHo.2.2 a _ hk
  have h0 := aIn_sp hi
  exact W.iald hx hb q1 q2 q3 (fun z => h0 (z.imp id (Nat.le_trans q4.1))) (q6 _ (Nat.not_le.mp fun q => h0 (Or.inr q))).1 rfl rfl hdg kk
theorem w_bald {n : Nat} {i : Int32} (hx : p.tables.exec = Jvm.exec) (hb : c.code = cc) (hHo : rHo P cl D dA cn lo s H μ) (hk : rk μ a = some (.inr (1, n))) (hi : aIn i n = true) (hdg : decode cc pc = .ok (.baload, 1))
    (kk : W p l e R s m args below meth c H locs cells slots Q (F0 m (pc + 1) Lx (.int (ri μ a i.toNatClampNeg) :: r))) : W p l e R s m args below meth c H locs cells slots Q (F0 m pc Lx (.int i :: .ref a :: r)) := by
  obtain ⟨cell, q1, q2, q3, q4, q5, q6, q7⟩ := hHo.2.2 a _ hk
  have h0 := aIn_sp hi
  exact W.bald hx hb q1 q2 q3 (fun z => h0 (z.imp id (Nat.le_trans q4.1))) (q6 _ (Nat.not_le.mp fun q => h0 (Or.inr q))).1 rfl rfl hdg kk
theorem w_zald {n : Nat} {i : Int32} (hx : p.tables.exec = Jvm.exec) (hb : c.code = cc) (hHo : rHo P cl D dA cn lo s H μ) (hk : rk μ a = some (.inr (2, n))) (hi : aIn i n = true) (hdg : decode cc pc = .ok (.baload, 1))
    (kk : W p l e R s m args below meth c H locs cells slots Q (F0 m (pc + 1) Lx (.int (ri μ a i.toNatClampNeg) :: r))) : W p l e R s m args below meth c H locs cells slots Q (F0 m pc Lx (.int i :: .ref a :: r)) := by
  obtain ⟨cell, q1, q2, q3, q4, q5, q6, q7⟩ := hHo.2.2 a _ hk
  have h0 := aIn_sp hi
  exact W.zald hx hb q1 q2 q3 (fun z => h0 (z.imp id (Nat.le_trans q4.1))) (q6 _ (Nat.not_le.mp fun q => h0 (Or.inr q))).1 rfl rfl hdg kk
theorem w_lald {n : Nat} {i : Int32} (hx : p.tables.exec = Jvm.exec) (hb : c.code = cc) (hHo : rHo P cl D dA cn lo s H μ) (hk : rk μ a = some (.inr (3, n))) (hi : aIn i n = true) (hdg : decode cc pc = .ok (.laload, 1))
    (kk : W p l e R s m args below meth c H locs cells slots Q (F0 m (pc + 1) Lx (.long (rl μ a i.toNatClampNeg) :: r))) : W p l e R s m args below meth c H locs cells slots Q (F0 m pc Lx (.int i :: .ref a :: r)) := by
  obtain ⟨cell, q1, q2, q3, q4, q5, q6, q7⟩ := hHo.2.2 a _ hk
  have h0 := aIn_sp hi
  exact W.lald hx hb q1 q2 q3 (fun z => h0 (z.imp id (Nat.le_trans q4.1))) (q6 _ (Nat.not_le.mp fun q => h0 (Or.inr q))).1 rfl rfl hdg kk
theorem w_aald {n t : Nat} {i : Int32} (hx : p.tables.exec = Jvm.exec) (hb : c.code = cc) (hHo : rHo P cl D dA cn lo s H μ) (hk : rk μ a = some (.inr (t + 4, n))) (hi : aIn i n = true) (hdg : decode cc pc = .ok (.aaload, 1))
    (kk : W p l e R s m args below meth c H locs cells slots Q (F0 m (pc + 1) Lx (va_rf (rr μ a i.toNatClampNeg) :: r))) : W p l e R s m args below meth c H locs cells slots Q (F0 m pc Lx (.int i :: .ref a :: r)) := by
  obtain ⟨cell, q1, q2, q3, q4, q5, q6, q7⟩ := hHo.2.2 a _ hk
  have h0 := aIn_sp hi
  exact W.aald hx hb q1 q2 rfl q3 (fun z => h0 (z.imp id (Nat.le_trans q4.1))) (q6 _ (Nat.not_le.mp fun q => h0 (Or.inr q))).1 rfl rfl hdg kk
theorem w_alen {q : Nat × Nat} (hx : p.tables.exec = Jvm.exec) (hb : c.code = cc) (hHo : rHo P cl D dA cn lo s H μ) (hk : rk μ a = some (.inr q)) (hdg : decode cc pc = .ok (.arraylength, 1))
    (kk : W p l e R s m args below meth c H locs cells slots Q (F0 m (pc + 1) Lx (.int (Int32.ofNat q.2) :: r))) : W p l e R s m args below meth c H locs cells slots Q (F0 m pc Lx (.ref a :: r)) := by
  obtain ⟨cell, q1, q2, q3, q4, q5, q6, q7⟩ := hHo.2.2 a _ hk
  exact W.alen hx hb q1 q2 q4.2 rfl rfl hdg kk
theorem w_iast {n : Nat} {i x : Int32} (hx : p.tables.exec = Jvm.exec) (hb : c.code = cc) (hHo : rHo P cl D dA cn lo s H μ) (hS0 : va_S (fun q => lo ≤ q) s.heap H locs) (hk : rk μ a = some (.inr (0, n))) (hlo : lo ≤ a) (hi : aIn i n = true) (hdg : decode cc pc = .ok (.iastore, 1))
    (kk : ∀ (H1 : Heap) (locs1 : List Loc), rHo P cl D dA cn lo s H1 (wi μ a i.toNatClampNeg x) → va_S (fun q => lo ≤ q) s.heap H1 locs1 → W p l e R s m args below meth c H1 locs1 cells slots Q (F0 m (pc + 1) Lx r)) : W p l e R s m args below meth c H locs cells slots Q (F0 m pc Lx (.int x :: .int i :: .ref a :: r)) := by
  obtain ⟨cell, q1, q2, q3, q4, q5, q6, q7⟩ := hHo.2.2 a _ hk
  have h0 := aIn_sp hi
  refine W.iast hx hb q1 q2 q3 (fun z => h0 (z.imp id (Nat.le_trans q4.1))) rfl rfl hdg fun H1 g1 g2 g3 => kk H1 _ ?_ (hS0.put g2 g3 hlo)
  obtain ⟨w1, w2, w3⟩ := wi_sp μ a i.toNatClampNeg x
  exact hHo.ast hk hlo g2 g3 rfl (fun _ => rfl) w1 (fun _ _ _ => rfl) (fun _ _ _ => rfl) w2 (by rw [w3]; rfl) rfl q1 g1
theorem w_last {n : Nat} {i : Int32} {x : Int64} (hx : p.tables.exec = Jvm.exec) (hb : c.code = cc) (hHo : rHo P cl D dA cn lo s H μ) (hS0 : va_S (fun q => lo ≤ q) s.heap H locs) (hk : rk μ a = some (.inr (3, n))) (hlo : lo ≤ a) (hi : aIn i n = true) (hdg : decode cc pc = .ok (.lastore, 1))
    (kk : ∀ (H1 : Heap) (locs1 : List Loc), rHo P cl D dA cn lo s H1 (wl μ a i.toNatClampNeg x) → va_S (fun q => lo ≤ q) s.heap H1 locs1 → W p l e R s m args below meth c H1 locs1 cells slots Q (F0 m (pc + 1) Lx r)) : W p l e R s m args below meth c H locs cells slots Q (F0 m pc Lx (.long x :: .int i :: .ref a :: r)) := by
  obtain ⟨cell, q1, q2, q3, q4, q5, q6, q7⟩ := hHo.2.2 a _ hk
  have h0 := aIn_sp hi
  refine W.last hx hb q1 q2 q3 (fun z => h0 (z.imp id (Nat.le_trans q4.1))) rfl rfl hdg fun H1 g1 g2 g3 => kk H1 _ ?_ (hS0.put g2 g3 hlo)
  obtain ⟨w1, w2, w3⟩ := wl_sp μ a i.toNatClampNeg x
  exact hHo.ast hk hlo g2 g3 rfl (fun _ => rfl) (fun _ _ _ => rfl) (fun _ _ _ => rfl) w1 w2 (by rw [w3]; rfl) rfl q1 g1
theorem w_bast {n : Nat} {i x : Int32} (hx : p.tables.exec = Jvm.exec) (hb : c.code = cc) (hHo : rHo P cl D dA cn lo s H μ) (hS0 : va_S (fun q => lo ≤ q) s.heap H locs) (hk : rk μ a = some (.inr (1, n))) (hlo : lo ≤ a) (hi : aIn i n = true) (hdg : decode cc pc = .ok (.bastore, 1))
    (kk : ∀ (H1 : Heap) (locs1 : List Loc), rHo P cl D dA cn lo s H1 (wi μ a i.toNatClampNeg x.toInt8.toInt32) → va_S (fun q => lo ≤ q) s.heap H1 locs1 → W p l e R s m args below meth c H1 locs1 cells slots Q (F0 m (pc + 1) Lx r)) : W p l e R s m args below meth c H locs cells slots Q (F0 m pc Lx (.int x :: .int i :: .ref a :: r)) := by
  obtain ⟨cell, q1, q2, q3, q4, q5, q6, q7⟩ := hHo.2.2 a _ hk
  have h0 := aIn_sp hi
  refine W.bast hx hb q1 q2 q3 (fun z => h0 (z.imp id (Nat.le_trans q4.1))) rfl rfl hdg fun H1 g1 g2 g3 => kk H1 _ ?_ (hS0.put g2 g3 hlo)
  obtain ⟨w1, w2, w3⟩ := wi_sp μ a i.toNatClampNeg x.toInt8.toInt32
  refine hHo.ast hk hlo g2 g3 rfl (fun _ => rfl) w1 (fun _ _ _ => rfl) (fun _ _ _ => rfl) w2 (by rw [w3]; rfl) ?_ q1 g1
  show (decide (-128 ≤ x.toInt8.toInt32) && decide (x.toInt8.toInt32 ≤ 127)) = true
  have h1 := Int8.le_toInt x.toInt8
  have h2 := Int8.toInt_le x.toInt8
  have h3 : x.toInt8.toInt32.toInt = x.toInt8.toInt := by simp
  rw [Bool.and_eq_true, decide_eq_true_eq, decide_eq_true_eq, Int32.le_iff_toInt_le, Int32.le_iff_toInt_le, h3]
  refine ⟨?_, ?_⟩
  · have : (-128 : Int32).toInt = -128 := by decide
    omega
  · have : (127 : Int32).toInt = 127 := by decide
    have : Int8.maxValue.toInt = 127 := by decide
    omega
theorem w_zast {n : Nat} {i x : Int32} (hx : p.tables.exec = Jvm.exec) (hb : c.code = cc) (hHo : rHo P cl D dA cn lo s H μ) (hS0 : va_S (fun q => lo ≤ q) s.heap H locs) (hk : rk μ a = some (.inr (2, n))) (hlo : lo ≤ a) (hi : aIn i n = true) (hdg : decode cc pc = .ok (.bastore, 1))
    (kk : ∀ (H1 : Heap) (locs1 : List Loc), rHo P cl D dA cn lo s H1 (wi μ a i.toNatClampNeg (x &&& 1)) → va_S (fun q => lo ≤ q) s.heap H1 locs1 → W p l e R s m args below meth c H1 locs1 cells slots Q (F0 m (pc + 1) Lx r)) : W p l e R s m args below meth c H locs cells slots Q (F0 m pc Lx (.int x :: .int i :: .ref a :: r)) := by
  obtain ⟨cell, q1, q2, q3, q4, q5, q6, q7⟩ := hHo.2.2 a _ hk
  have h0 := aIn_sp hi
  refine W.zast hx hb q1 q2 q3 (fun z => h0 (z.imp id (Nat.le_trans q4.1))) rfl rfl hdg fun H1 g1 g2 g3 => kk H1 _ ?_ (hS0.put g2 g3 hlo)
  obtain ⟨w1, w2, w3⟩ := wi_sp μ a i.toNatClampNeg (x &&& 1)
  refine hHo.ast hk hlo g2 g3 rfl (fun _ => rfl) w1 (fun _ _ _ => rfl) (fun _ _ _ => rfl) w2 (by rw [w3]; rfl) ?_ q1 g1
  show ((x &&& 1) == 0 || (x &&& 1) == 1) = true
  have hbv : ∀ b : BitVec 32, b &&& 1#32 = 0#32 ∨ b &&& 1#32 = 1#32 := by
    intro b
    have e : (b &&& 1#32).toNat = b.toNat % 2 := by
      rw [BitVec.toNat_and]
      exact Nat.and_one_is_mod _
    rcases Nat.mod_two_eq_zero_or_one b.toNat with h | h
    · exact Or.inl (BitVec.eq_of_toNat_eq (by rw [e, h]; rfl))
    · exact Or.inr (BitVec.eq_of_toNat_eq (by rw [e, h]; rfl))
  rcases hbv x.toBitVec with h | h
  · have : x &&& 1 = 0 := Int32.toBitVec_inj.mp h
    rw [this]; decide
  · have : x &&& 1 = 1 := Int32.toBitVec_inj.mp h
    rw [this]; decide
theorem w_aast {n t x : Nat} {i : Int32} {q : vw_C} (hx : p.tables.exec = Jvm.exec) (hb : c.code = cc) (hK : ∀ c (q : vw_C), cl[c]? = some q → u_Kn s q.1 q.2.1 q.2.2 (D.1 c) (D.2 c)) (hHo : rHo P cl D dA cn lo s H μ) (hS0 : va_S (fun q => lo ≤ q) s.heap H locs) (hk : rk μ a = some (.inr (t + 4, n))) (hlo : lo ≤ a) (hi : aIn i n = true) (hts : t ≠ strC) (hq : cl[t]? = some q) (hqn : q.1 = cn t) (hRA : va_RA s (dA (t + 4)) (rAty cn (t + 4))) (hkx : rk μ x = some (.inl t)) (hdg : decode cc pc = .ok (.aastore, 1))
    (kk : ∀ (H1 : Heap) (locs1 : List Loc), rHo P cl D dA cn lo s H1 (wr μ a i.toNatClampNeg (some x)) → va_S (fun q => lo ≤ q) s.heap H1 locs1 → W p l e R s m args below meth c H1 locs1 cells slots Q (F0 m (pc + 1) Lx r)) : W p l e R s m args below meth c H locs cells slots Q (F0 m pc Lx (.ref x :: .int i :: .ref a :: r)) := by
  obtain ⟨cell, q1, q2, q3, q4, q5, q6, q7⟩ := hHo.2.2 a _ hk
  have h0 := aIn_sp hi
  have h := hHo.2.2 x _ hkx
  simp only [rCell, if_neg hts] at h
  obtain ⟨q', h1, cv, v1, v2, v3, v4⟩ := h
  obtain ⟨kA, comp, k1, k2, k3, k4⟩ := hRA
  obtain ⟨hS, hfc, kC, hkC, hkind⟩ := hK t q hq
  have hco : comp = D.1 t := by
    rw [hqn] at hfc
    exact Option.some.inj (k3.symm.trans hfc)
  subst hco
  have hcls : cell.cls = dA (t + 4) := by rw [q7 hlo]; rfl
  refine W.aast hx hb q1 q2.1 q3 (by rw [hcls]; exact k1) k2 rfl hkC ⟨fun q => h0 (Or.inl q), Nat.lt_of_lt_of_le (Nat.not_le.mp fun q => h0 (Or.inr q)) q4.1⟩ v1 (fun q hq => by rw [v3] at hq; cases hq) (by rw [v2]; exact hkC) (by rw [v2]; exact va_assign (hK t q hq).2) rfl rfl hdg fun H1 g1 g2 g3 => kk H1 _ ?_ (hS0.put g2 g3 hlo)
  obtain ⟨w1, w2, w3⟩ := wr_sp μ a i.toNatClampNeg (some x)
  exact hHo.ast hk hlo g2 g3 rfl (fun _ => rfl) (fun _ _ _ => rfl) w1 (fun _ _ _ => rfl) w2 (by rw [w3]; rfl) rfl q1 g1
end WROWS
