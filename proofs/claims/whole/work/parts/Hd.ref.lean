/-! THE REFERENCE'S ANSWERS: quick -/
/-- behind t turns: bounds, and how many are settled -/
def BFI (S : Nat → Int → Int) (to : Int) (B : Int → Int) : Prop := ∀ a, 0 ≤ a → a < S 0 0 → (0 ≤ B a ∧ B a ≤ 9999) ∧ (B a < 9999 → fwQ S 100000000 (S 0 0) a to ≤ B a)
def bfS (S : Nat → Int → Int) (to : Int) (B : Int → Int) (a : Int) : Bool := decide (100000000 ≤ fwQ S 100000000 (S 0 0) a to ∨ B a ≤ fwQ S 100000000 (S 0 0) a to)
/-- a whole turn settles a further one -/
theorem bf_turn {S : Nat → Int → Int} (hV : SV S) {to t : Int} {B B' : Int → Int} (ht : 0 ≤ to ∧ to < S 0 0) (h1 : ∀ a, 0 ≤ a → a < S 0 0 → B' a ≤ B a) (h2 : ∀ a b, 0 ≤ a → a < S 0 0 → 0 ≤ b → b < S 0 0 → S 1 (a * 8 + b) ≠ 0 → B' a ≤ B b + S 1 (a * 8 + b)) (h0 : B to = 0) (hc : t + 1 ≤ sm (fun a => b2i (bfS S to B a)) (S 0 0) ∨ ∀ a, 0 ≤ a → a < S 0 0 → bfS S to B a = true) : t + 1 + 1 ≤ sm (fun a => b2i (bfS S to B' a)) (S 0 0) ∨ ∀ a, 0 ≤ a → a < S 0 0 → bfS S to B' a = true := by
  have v := hV.1
  have mono : ∀ a, 0 ≤ a → a < S 0 0 → bfS S to B a = true → bfS S to B' a = true := by
    intro a q1 q2 q3
    unfold bfS at *
    rw [decide_eq_true_eq] at *
    have := h1 a q1 q2
    omega
  by_cases hall : ∀ a, 0 ≤ a → a < S 0 0 → bfS S to B a = true
  · exact Or.inr (fun a q1 q2 => mono a q1 q2 (hall a q1 q2))
  · rcases hc with hc | hc
    · -- the nearest of those that aren't settled
      have key : ∀ N : Nat, ∀ a, 0 ≤ a → a < S 0 0 → bfS S to B a = false → fwQ S 100000000 (S 0 0) a to < N → ∃ a, 0 ≤ a ∧ a < S 0 0 ∧ bfS S to B a = false ∧ bfS S to B' a = true := by
        intro N
        induction N with
        | zero =>
          intro a q1 q2 q3 q4
          have := (fw_b hV (inf := 100000000) (by omega) (n := S 0 0) (h := a) (k := to) (by omega) (by omega) (by omega)).1
          omega
        | succ N ih =>
          intro a q1 q2 q3 q4
          have q3' := q3
          unfold bfS at q3'
          rw [decide_eq_false_iff_not] at q3'
          have hat : a ≠ to := by
            intro q
            have z := (fw_b hV (inf := 100000000) (by omega) (n := S 0 0) (h := a) (k := to) (by omega) (by omega) (by omega)).2 q
            rw [q] at q3'
            rw [q] at z
            omega
          obtain ⟨c, k1, k2, k3, k4⟩ := fw_att hV (inf := 100000000) (by omega) (n := S 0 0) (by omega) ⟨q1, q2⟩ ht hat (by omega)
          have vd := hV.2.1 (a * 8 + c) (by omega) (by omega)
          cases hbc : bfS S to B c
          · exact ih c k1 k2 hbc (by omega)
          · refine ⟨a, q1, q2, q3, ?_⟩
            unfold bfS at hbc ⊢
            rw [decide_eq_true_eq] at hbc ⊢
            have := h2 a c q1 q2 k1 k2 k3
            omega
      have hex : ∃ a, 0 ≤ a ∧ a < S 0 0 ∧ bfS S to B a = false := by
        apply Classical.byContradiction
        intro q
        apply hall
        intro a q1 q2
        cases hb : bfS S to B a
        · exact absurd ⟨a, q1, q2, hb⟩ q
        · rfl
      obtain ⟨a, q1, q2, q3⟩ := hex
      obtain ⟨a', r1, r2, r3, r4⟩ := key ((fwQ S 100000000 (S 0 0) a to).toNat + 1) a q1 q2 q3 (by omega)
      have := smb_lt (bfS S to B) (bfS S to B') ⟨r1, r2⟩ mono r3 r4
      exact Or.inl (by omega)
    · exact absurd hc hall
section REF
variable {E : (Nat → Value) × (Nat → Nat)} {lo d m : Nat} {μ : rM} {I M S L R C T : Nat → Int → Int} {k u x y z h w s r n c j : Int} {b : Bool}
theorem q_quick (hd : 4 ≤ d) (hM : ShM μ m) (hl : lo ≤ m) (hS : TSt M x S) (hx : i32 x ∧ i32 y ∧ i32 z) : QR μ I m M (if (0 ≤ x ∧ x < M 1 0) ∧ (0 ≤ y ∧ y < S 0 0) ∧ (0 ≤ z ∧ z < S 0 0) then (if fwQ S 100000000 (S 0 0) y z < 100000000 then fwQ S 100000000 (S 0 0) y z else -1) else -1) (cl E lo d 248 [.ref m, .int (J (x)), .int (J (y)), .int (J (z))] (mj μ (sB I m 26 M))) := by
  obtain ⟨d, rfl⟩ : ∃ e, d = e + 1 := ⟨d - 1, by omega⟩
  unfold i32 at hx
  obtain ⟨M1, e1, a1, a2, a3⟩ := str_sp (E := E) (lo := lo) (d := d) (I := I) (M := M) (S := S) (x := x) (by omega) hM hl hS.1 hx.1 hS.2
  have m1 : M1 1 = M 1 := a1 1 (by decide) (by decide)
  have m2 : M1 2 = M 2 := a1 2 (by decide) (by decide)
  by_cases p1 : 0 ≤ x ∧ x < M 1 0
  · rw [decide_eq_true p1] at e1
    obtain ⟨hR, hB, h12⟩ := a3 p1.1 p1.2
    have hV := (hS.2 p1.1 p1.2).1.1
    have v := hV.1
    by_cases p2 : 0 ≤ y ∧ y < S 0 0
    · by_cases p3 : 0 ≤ z ∧ z < S 0 0
      · rw [if_pos ⟨p1, p2, p3⟩]
        have hRf : ∀ M', (∀ c, c ≠ 14 → M' c = M1 c) → RS M' S := fun M' h => hR.fr (by rw [h 0 (by decide)]) (by rw [h 0 (by decide)]) (h 1 (by decide)) (h 4 (by decide)) (h 5 (by decide)) (h 7 (by decide)) (h 8 (by decide))
        -- far all, but the one
        obtain ⟨M2, e2, b1, b2⟩ := loop (fun i M' => ex PG E lo d 248 29 [some (.ref m), some (.int (J (x))), some (.int (J (y))), some (.int (J (z))), some (.int (J (i))), none, none] [] (mj μ (sB I m 26 M'))) (fun i M' => (∀ c, c ≠ 14 → M' c = M1 c) ∧ ∀ k, 0 ≤ k → k < i → M' 14 k = if k = z then 0 else 9999) (a := 0) (n := 8) (fun i M' f1 f2 hP => by
          obtain ⟨b1, b2⟩ := hP
          refine ⟨u3 M' 14 i (if i = z then 0 else 9999), ?_, fun c q => by rw [u3_c q, b1 c q], fun k g1 g2 => ?_⟩
          · rw [b248_29]
            by_cases c : i = z
            · rw [if_pos c]
              simp (disch := omega) only [b248_36, b248_48, b248_55, b248_56, gO_M hM, gR_M0 hM, gR_M1 hM, gR_M11 hM, gR_M13 hM, gR_M14 hM, gR_M15 hM, gR_M16 hM, gR_M17 hM, gR_M22 hM, gR_M32 hM, gR_M33 hM, gR_M34 hM, gR_M35 hM, gR_M36 hM, gR_M37 hM, gR_M38 hM, gR_M41 hM, gR_M42 hM, gR_M43 hM, gR_M45 hM, gR_M46 hM, gR_M47 hM, gR_M50 hM, gR_M51 hM, gR_M52 hM, al_M1 hM, al_M2 hM, al_M3 hM, al_M4 hM, al_M5 hM, al_M6 hM, al_M7 hM, al_M8 hM, al_M9 hM, al_M10 hM, al_M11 hM, al_M12 hM, al_M13 hM, al_M14 hM, al_M15 hM, al_M16 hM, al_M17 hM, al_M18 hM, al_M19 hM, al_M20 hM, al_M21 hM, al_M22 hM, al_M23 hM, al_M24 hM, al_M25 hM, rd_M1 hM, rd_M2 hM, rd_M3 hM, rd_M4 hM, rd_M5 hM, rd_M6 hM, rd_M7 hM, rd_M8 hM, rd_M9 hM, rd_M10 hM, rd_M11 hM, rd_M12 hM, rd_M13 hM, rd_M14 hM, rd_M15 hM, rd_M16 hM, rd_M17 hM, rd_M18 hM, rd_M19 hM, rd_M20 hM, rd_M21 hM, rd_M22 hM, rd_M23 hM, rd_M24 hM, rd_M25 hM, gP_M hM hl, wr_M1 hM hl, wr_M2 hM hl, wr_M3 hM hl, wr_M4 hM hl, wr_M5 hM hl, wr_M6 hM hl, wr_M7 hM hl, wr_M8 hM hl, wr_M9 hM hl, wr_M10 hM hl, wr_M11 hM hl, wr_M12 hM hl, wr_M13 hM hl, wr_M14 hM hl, wr_M15 hM hl, wr_M16 hM hl, wr_M17 hM hl, wr_M18 hM hl, wr_M19 hM hl, wr_M20 hM hl, wr_M21 hM hl, wr_M22 hM hl, wr_M23 hM hl, wr_M24 hM hl, wr_M25 hM hl, sB_0, sB_c, u3_sB0, u3_sB, u3_s, u3_n, Nat.reduceLT, c, Jl0, Jl1, Jl2, Jl3, Jl4, Jl5, Jl6, Jl7, Jl8, Jl9, Jl10, Jl11, Jl12, Jl13, Jl14, Jl15, Jl16, Jl17, Jl18, Jl19, Jl20, Jl22, Jl24, Jl28, Jl30, Jl31, Jl32, Jl35, Jl36, Jl37, Jl38, Jl39, Jl40, Jl48, Jl57, Jl59, Jl60, Jl61, Jl63, Jl64, Jl68, Jl69, Jl96, Jl97, Jl98, Jl99, Jl100, Jl122, Jl149, Jl150, Jl165, Jl255, Jl511, Jl512, Jl600, Jl610, Jl940, Jl968, Jl999, Jl1134, Jl1152, Jl2048, Jl4608, Jl9999, Jl99999, Jl100000, Jl147456, Jl12345, Jl1103515245, Jl100000000, Jlm1, Jlm2, J_add, J_sub, J_mul, J_lt, J_le, J_eq, J_ite, J_cl, ri_j, wi_j, b2i_z, b2i_o, b2i_zo, Int.cast_ofNat_Int, Int.natCast_zero, Int.natCast_one, if_true, if_false, ite_self, Int.le_refl, J_bit, J_or, J_neg, J_oN, Int.reduceEq, Int.reduceLT, Int.reduceLE, Int.reduceNeg, Int.reduceAdd, Int.reduceSub, Int.reduceMul, Int.reduceToNat, J_shl, J_shr, V_ite, true_or, or_true, nz_j, J_div, J_rem, Option.bind_some, Option.toList_some, Option.toList_none, List.cons_append, List.nil_append, Jl21, Jl23, Jl25, Jl74, Jl83, Jl288, Jl324, Jl1800, Jlm8]
              repeat (first | rw [if_neg (by omega)] | rw [if_pos (by omega)])
            · rw [if_neg c]
              simp (disch := omega) only [b248_36, b248_52, b248_55, b248_56, gO_M hM, gR_M0 hM, gR_M1 hM, gR_M11 hM, gR_M13 hM, gR_M14 hM, gR_M15 hM, gR_M16 hM, gR_M17 hM, gR_M22 hM, gR_M32 hM, gR_M33 hM, gR_M34 hM, gR_M35 hM, gR_M36 hM, gR_M37 hM, gR_M38 hM, gR_M41 hM, gR_M42 hM, gR_M43 hM, gR_M45 hM, gR_M46 hM, gR_M47 hM, gR_M50 hM, gR_M51 hM, gR_M52 hM, al_M1 hM, al_M2 hM, al_M3 hM, al_M4 hM, al_M5 hM, al_M6 hM, al_M7 hM, al_M8 hM, al_M9 hM, al_M10 hM, al_M11 hM, al_M12 hM, al_M13 hM, al_M14 hM, al_M15 hM, al_M16 hM, al_M17 hM, al_M18 hM, al_M19 hM, al_M20 hM, al_M21 hM, al_M22 hM, al_M23 hM, al_M24 hM, al_M25 hM, rd_M1 hM, rd_M2 hM, rd_M3 hM, rd_M4 hM, rd_M5 hM, rd_M6 hM, rd_M7 hM, rd_M8 hM, rd_M9 hM, rd_M10 hM, rd_M11 hM, rd_M12 hM, rd_M13 hM, rd_M14 hM, rd_M15 hM, rd_M16 hM, rd_M17 hM, rd_M18 hM, rd_M19 hM, rd_M20 hM, rd_M21 hM, rd_M22 hM, rd_M23 hM, rd_M24 hM, rd_M25 hM, gP_M hM hl, wr_M1 hM hl, wr_M2 hM hl, wr_M3 hM hl, wr_M4 hM hl, wr_M5 hM hl, wr_M6 hM hl, wr_M7 hM hl, wr_M8 hM hl, wr_M9 hM hl, wr_M10 hM hl, wr_M11 hM hl, wr_M12 hM hl, wr_M13 hM hl, wr_M14 hM hl, wr_M15 hM hl, wr_M16 hM hl, wr_M17 hM hl, wr_M18 hM hl, wr_M19 hM hl, wr_M20 hM hl, wr_M21 hM hl, wr_M22 hM hl, wr_M23 hM hl, wr_M24 hM hl, wr_M25 hM hl, sB_0, sB_c, u3_sB0, u3_sB, u3_s, u3_n, Nat.reduceLT, c, Jl0, Jl1, Jl2, Jl3, Jl4, Jl5, Jl6, Jl7, Jl8, Jl9, Jl10, Jl11, Jl12, Jl13, Jl14, Jl15, Jl16, Jl17, Jl18, Jl19, Jl20, Jl22, Jl24, Jl28, Jl30, Jl31, Jl32, Jl35, Jl36, Jl37, Jl38, Jl39, Jl40, Jl48, Jl57, Jl59, Jl60, Jl61, Jl63, Jl64, Jl68, Jl69, Jl96, Jl97, Jl98, Jl99, Jl100, Jl122, Jl149, Jl150, Jl165, Jl255, Jl511, Jl512, Jl600, Jl610, Jl940, Jl968, Jl999, Jl1134, Jl1152, Jl2048, Jl4608, Jl9999, Jl99999, Jl100000, Jl147456, Jl12345, Jl1103515245, Jl100000000, Jlm1, Jlm2, J_add, J_sub, J_mul, J_lt, J_le, J_eq, J_ite, J_cl, ri_j, wi_j, b2i_z, b2i_o, b2i_zo, Int.cast_ofNat_Int, Int.natCast_zero, Int.natCast_one, if_true, if_false, ite_self, Int.le_refl, J_bit, J_or, J_neg, J_oN, Int.reduceEq, Int.reduceLT, Int.reduceLE, Int.reduceNeg, Int.reduceAdd, Int.reduceSub, Int.reduceMul, Int.reduceToNat, J_shl, J_shr, V_ite, true_or, or_true, nz_j, J_div, J_rem, Option.bind_some, Option.toList_some, Option.toList_none, List.cons_append, List.nil_append, Jl21, Jl23, Jl25, Jl74, Jl83, Jl288, Jl324, Jl1800, Jlm8]
              repeat (first | rw [if_neg (by omega)] | rw [if_pos (by omega)])
          · have := b2 k g1
            unfold u3
            grind) (by omega) M1 ⟨fun c _ => rfl, fun k g1 g2 => by omega⟩
        -- eight turns
        obtain ⟨⟨M3, q5, q6⟩, e3, c1, c2, c3, c4⟩ := loop (fun i (t : (Nat → Int → Int) × Option Value × Option Value) => ex PG E lo d 248 65 [some (.ref m), some (.int (J (x))), some (.int (J (y))), some (.int (J (z))), some (.int (J (i))), t.2.1, t.2.2] [] (mj μ (sB I m 26 t.1))) (fun i t => (∀ c, c ≠ 14 → t.1 c = M1 c) ∧ BFI S z (t.1 14) ∧ t.1 14 z = 0 ∧ (i + 1 ≤ sm (fun a => b2i (bfS S z (t.1 14) a)) (S 0 0) ∨ ∀ a, 0 ≤ a → a < S 0 0 → bfS S z (t.1 14) a = true)) (a := 0) (n := 8) (fun i t f1 f2 hP => by
          obtain ⟨M', q5, q6⟩ := t
          dsimp only at hP ⊢
          obtain ⟨c1, c2, c3, c4⟩ := hP
          obtain ⟨⟨M4, q6'⟩, e4, d1, d2, d3, d4, d5⟩ := loop (fun a (t : (Nat → Int → Int) × Option Value) => ex PG E lo d 248 75 [some (.ref m), some (.int (J (x))), some (.int (J (y))), some (.int (J (z))), some (.int (J (i))), some (.int (J (a))), t.2] [] (mj μ (sB I m 26 t.1))) (fun a t => (∀ c, c ≠ 14 → t.1 c = M1 c) ∧ BFI S z (t.1 14) ∧ t.1 14 z = 0 ∧ (∀ h, 0 ≤ h → h < S 0 0 → t.1 14 h ≤ M' 14 h) ∧ ∀ h k, 0 ≤ h → h < a → 0 ≤ k → k < S 0 0 → S 1 (h * 8 + k) ≠ 0 → t.1 14 h ≤ M' 14 k + S 1 (h * 8 + k)) (a := 0) (n := S 0 0) (fun a t g1 g2 hP => by
            obtain ⟨Ma, qa⟩ := t
            dsimp only at hP ⊢
            obtain ⟨d1, d2, d3, d4, d5⟩ := hP
            obtain ⟨M5, e5, f1', f2', f3, f4, f5, f6⟩ := loop (fun bb M5 => ex PG E lo d 248 87 [some (.ref m), some (.int (J (x))), some (.int (J (y))), some (.int (J (z))), some (.int (J (i))), some (.int (J (a))), some (.int (J (bb)))] [] (mj μ (sB I m 26 M5))) (fun bb M5 => (∀ c, c ≠ 14 → M5 c = M1 c) ∧ BFI S z (M5 14) ∧ M5 14 z = 0 ∧ (∀ h, 0 ≤ h → h < S 0 0 → M5 14 h ≤ Ma 14 h) ∧ (∀ h, h ≠ a → M5 14 h = Ma 14 h) ∧ ∀ k, 0 ≤ k → k < bb → S 1 (a * 8 + k) ≠ 0 → M5 14 a ≤ M' 14 k + S 1 (a * 8 + k)) (a := 0) (n := S 0 0) (fun bb M5 h1 h2 hP => by
              obtain ⟨f1', f2', f3, f4, f5, f6⟩ := hP
              have hR5 := hRf M5 f1'
              have hnh := nH_sp (E := E) (lo := lo) (d := d) (I := I) (by omega) hM hR5
              have hdr := dr_sp (E := E) (lo := lo) (d := d) (I := I) (x := a) (y := bb) (by omega) hM hR5 (by omega) (by omega)
              have vd := hV.2.1 (a * 8 + bb) (by omega) (by omega)
              have ba := f2' a g1 g2
              have bb' := f2' bb h1 h2
              by_cases c0 : S 1 (a * 8 + bb) = 0
              · refine ⟨M5, ?_, f1', f2', f3, f4, f5, fun k q1 q2 q3 => ?_⟩
                · rw [b248_87]
                  simp (disch := omega) only [b248_93, b248_96, b248_104, b248_140, gO_M hM, gR_M0 hM, gR_M1 hM, gR_M11 hM, gR_M13 hM, gR_M14 hM, gR_M15 hM, gR_M16 hM, gR_M17 hM, gR_M22 hM, gR_M32 hM, gR_M33 hM, gR_M34 hM, gR_M35 hM, gR_M36 hM, gR_M37 hM, gR_M38 hM, gR_M41 hM, gR_M42 hM, gR_M43 hM, gR_M45 hM, gR_M46 hM, gR_M47 hM, gR_M50 hM, gR_M51 hM, gR_M52 hM, al_M1 hM, al_M2 hM, al_M3 hM, al_M4 hM, al_M5 hM, al_M6 hM, al_M7 hM, al_M8 hM, al_M9 hM, al_M10 hM, al_M11 hM, al_M12 hM, al_M13 hM, al_M14 hM, al_M15 hM, al_M16 hM, al_M17 hM, al_M18 hM, al_M19 hM, al_M20 hM, al_M21 hM, al_M22 hM, al_M23 hM, al_M24 hM, al_M25 hM, rd_M1 hM, rd_M2 hM, rd_M3 hM, rd_M4 hM, rd_M5 hM, rd_M6 hM, rd_M7 hM, rd_M8 hM, rd_M9 hM, rd_M10 hM, rd_M11 hM, rd_M12 hM, rd_M13 hM, rd_M14 hM, rd_M15 hM, rd_M16 hM, rd_M17 hM, rd_M18 hM, rd_M19 hM, rd_M20 hM, rd_M21 hM, rd_M22 hM, rd_M23 hM, rd_M24 hM, rd_M25 hM, hnh, hdr, c0, Jl0, Jl1, Jl2, Jl3, Jl4, Jl5, Jl6, Jl7, Jl8, Jl9, Jl10, Jl11, Jl12, Jl13, Jl14, Jl15, Jl16, Jl17, Jl18, Jl19, Jl20, Jl22, Jl24, Jl28, Jl30, Jl31, Jl32, Jl35, Jl36, Jl37, Jl38, Jl39, Jl40, Jl48, Jl57, Jl59, Jl60, Jl61, Jl63, Jl64, Jl68, Jl69, Jl96, Jl97, Jl98, Jl99, Jl100, Jl122, Jl149, Jl150, Jl165, Jl255, Jl511, Jl512, Jl600, Jl610, Jl940, Jl968, Jl999, Jl1134, Jl1152, Jl2048, Jl4608, Jl9999, Jl99999, Jl100000, Jl147456, Jl12345, Jl1103515245, Jl100000000, Jlm1, Jlm2, J_add, J_sub, J_mul, J_lt, J_le, J_eq, J_ite, J_cl, ri_j, wi_j, b2i_z, b2i_o, b2i_zo, Int.cast_ofNat_Int, Int.natCast_zero, Int.natCast_one, if_true, if_false, ite_self, Int.le_refl, J_bit, J_or, J_neg, J_oN, Int.reduceEq, Int.reduceLT, Int.reduceLE, Int.reduceNeg, Int.reduceAdd, Int.reduceSub, Int.reduceMul, Int.reduceToNat, J_shl, J_shr, V_ite, true_or, or_true, nz_j, J_div, J_rem, Option.bind_some, Option.toList_some, Option.toList_none, List.cons_append, List.nil_append, Jl21, Jl23, Jl25, Jl74, Jl83, Jl288, Jl324, Jl1800, Jlm8]
                  repeat (first | rw [if_neg (by omega)] | rw [if_pos (by omega)])
                · by_cases ck : k = bb
                  · rw [ck] at q3; exact absurd c0 q3
                  · exact f6 k q1 (by omega) q3
              · have hdoor := fw_door hV (inf := 100000000) (by omega) (n := S 0 0) (a := a) (b := bb) (by omega) (by omega) (by omega) c0
                have htri := fw_tri hV (inf := 100000000) (by omega) (n := S 0 0) (a := a) (b := z) (c := bb) (by omega) (by omega) (by omega) ⟨h1, h2⟩
                generalize hnv : (if M5 14 a < M5 14 bb + S 1 (a * 8 + bb) then M5 14 a else M5 14 bb + S 1 (a * 8 + bb)) = nv
                have nv1 : 0 ≤ nv ∧ nv ≤ M5 14 a ∧ nv ≤ M5 14 bb + S 1 (a * 8 + bb) ∧ (nv < 9999 → fwQ S 100000000 (S 0 0) a z ≤ nv) := by
                  rw [← hnv]
                  split <;> omega
                have rv : ∀ h, u3 M5 14 a nv 14 h = if h = a then nv else M5 14 h := fun h => by simp [u3]
                refine ⟨u3 M5 14 a nv, ?_, fun c q => by rw [u3_c q, f1' c q], fun h q1 q2 => ?_, ?_, fun h q1 q2 => ?_, fun h q => by rw [rv, if_neg q, f5 h q], fun k q1 q2 q3 => ?_⟩
                · rw [b248_87, ← hnv]
                  simp (disch := omega) only [b248_93, b248_96, b248_104, b248_107, b248_135, b248_139, b248_140, gO_M hM, gR_M0 hM, gR_M1 hM, gR_M11 hM, gR_M13 hM, gR_M14 hM, gR_M15 hM, gR_M16 hM, gR_M17 hM, gR_M22 hM, gR_M32 hM, gR_M33 hM, gR_M34 hM, gR_M35 hM, gR_M36 hM, gR_M37 hM, gR_M38 hM, gR_M41 hM, gR_M42 hM, gR_M43 hM, gR_M45 hM, gR_M46 hM, gR_M47 hM, gR_M50 hM, gR_M51 hM, gR_M52 hM, al_M1 hM, al_M2 hM, al_M3 hM, al_M4 hM, al_M5 hM, al_M6 hM, al_M7 hM, al_M8 hM, al_M9 hM, al_M10 hM, al_M11 hM, al_M12 hM, al_M13 hM, al_M14 hM, al_M15 hM, al_M16 hM, al_M17 hM, al_M18 hM, al_M19 hM, al_M20 hM, al_M21 hM, al_M22 hM, al_M23 hM, al_M24 hM, al_M25 hM, rd_M1 hM, rd_M2 hM, rd_M3 hM, rd_M4 hM, rd_M5 hM, rd_M6 hM, rd_M7 hM, rd_M8 hM, rd_M9 hM, rd_M10 hM, rd_M11 hM, rd_M12 hM, rd_M13 hM, rd_M14 hM, rd_M15 hM, rd_M16 hM, rd_M17 hM, rd_M18 hM, rd_M19 hM, rd_M20 hM, rd_M21 hM, rd_M22 hM, rd_M23 hM, rd_M24 hM, rd_M25 hM, gP_M hM hl, wr_M1 hM hl, wr_M2 hM hl, wr_M3 hM hl, wr_M4 hM hl, wr_M5 hM hl, wr_M6 hM hl, wr_M7 hM hl, wr_M8 hM hl, wr_M9 hM hl, wr_M10 hM hl, wr_M11 hM hl, wr_M12 hM hl, wr_M13 hM hl, wr_M14 hM hl, wr_M15 hM hl, wr_M16 hM hl, wr_M17 hM hl, wr_M18 hM hl, wr_M19 hM hl, wr_M20 hM hl, wr_M21 hM hl, wr_M22 hM hl, wr_M23 hM hl, wr_M24 hM hl, wr_M25 hM hl, sB_0, sB_c, u3_sB0, u3_sB, u3_s, u3_n, Nat.reduceLT, hnh, hdr, c0, le_sp, Jl0, Jl1, Jl2, Jl3, Jl4, Jl5, Jl6, Jl7, Jl8, Jl9, Jl10, Jl11, Jl12, Jl13, Jl14, Jl15, Jl16, Jl17, Jl18, Jl19, Jl20, Jl22, Jl24, Jl28, Jl30, Jl31, Jl32, Jl35, Jl36, Jl37, Jl38, Jl39, Jl40, Jl48, Jl57, Jl59, Jl60, Jl61, Jl63, Jl64, Jl68, Jl69, Jl96, Jl97, Jl98, Jl99, Jl100, Jl122, Jl149, Jl150, Jl165, Jl255, Jl511, Jl512, Jl600, Jl610, Jl940, Jl968, Jl999, Jl1134, Jl1152, Jl2048, Jl4608, Jl9999, Jl99999, Jl100000, Jl147456, Jl12345, Jl1103515245, Jl100000000, Jlm1, Jlm2, J_add, J_sub, J_mul, J_lt, J_le, J_eq, J_ite, J_cl, ri_j, wi_j, b2i_z, b2i_o, b2i_zo, Int.cast_ofNat_Int, Int.natCast_zero, Int.natCast_one, if_true, if_false, ite_self, Int.le_refl, J_bit, J_or, J_neg, J_oN, Int.reduceEq, Int.reduceLT, Int.reduceLE, Int.reduceNeg, Int.reduceAdd, Int.reduceSub, Int.reduceMul, Int.reduceToNat, J_shl, J_shr, V_ite, true_or, or_true, nz_j, J_div, J_rem, Option.bind_some, Option.toList_some, Option.toList_none, List.cons_append, List.nil_append, Jl21, Jl23, Jl25, Jl74, Jl83, Jl288, Jl324, Jl1800, Jlm8]
                  repeat (first | rw [if_neg (by omega)] | rw [if_pos (by omega)])
                · rw [rv]
                  by_cases ch : h = a
                  · rw [if_pos ch, ch]; omega
                  · rw [if_neg ch]; exact f2' h q1 q2
                · rw [rv]
                  by_cases ch : z = a
                  · rw [if_pos ch]
                    rw [← ch] at nv1
                    omega
                  · rw [if_neg ch]; exact f3
                · rw [rv]
                  by_cases ch : h = a
                  · rw [if_pos ch, ch]
                    have := f4 a g1 g2
                    omega
                  · rw [if_neg ch]; exact f4 h q1 q2
                · rw [rv, if_pos rfl]
                  by_cases ck : k = bb
                  · rw [ck]
                    have y1 := f4 bb h1 h2
                    have y2 := d4 bb h1 h2
                    omega
                  · have := f6 k q1 (by omega) q3
                    omega) (by omega) Ma ⟨d1, d2, d3, fun h _ _ => Int.le_refl _, fun h _ => rfl, fun k q1 q2 => by omega⟩
            have hRa := hRf Ma d1
            have hnha := nH_sp (E := E) (lo := lo) (d := d) (I := I) (by omega) hM hRa
            have hR5 := hRf M5 f1'
            have hnh5 := nH_sp (E := E) (lo := lo) (d := d) (I := I) (by omega) hM hR5
            refine ⟨(M5, some (.int (J (S 0 0)))), ?_, f1', f2', f3, fun h q1 q2 => ?_, fun h k q1 q2 q3 q4 q5 => ?_⟩
            · rw [b248_75]
              simp (disch := omega) only [b248_81, b248_84, gO_M hM, gR_M0 hM, gR_M1 hM, gR_M11 hM, gR_M13 hM, gR_M14 hM, gR_M15 hM, gR_M16 hM, gR_M17 hM, gR_M22 hM, gR_M32 hM, gR_M33 hM, gR_M34 hM, gR_M35 hM, gR_M36 hM, gR_M37 hM, gR_M38 hM, gR_M41 hM, gR_M42 hM, gR_M43 hM, gR_M45 hM, gR_M46 hM, gR_M47 hM, gR_M50 hM, gR_M51 hM, gR_M52 hM, al_M1 hM, al_M2 hM, al_M3 hM, al_M4 hM, al_M5 hM, al_M6 hM, al_M7 hM, al_M8 hM, al_M9 hM, al_M10 hM, al_M11 hM, al_M12 hM, al_M13 hM, al_M14 hM, al_M15 hM, al_M16 hM, al_M17 hM, al_M18 hM, al_M19 hM, al_M20 hM, al_M21 hM, al_M22 hM, al_M23 hM, al_M24 hM, al_M25 hM, rd_M1 hM, rd_M2 hM, rd_M3 hM, rd_M4 hM, rd_M5 hM, rd_M6 hM, rd_M7 hM, rd_M8 hM, rd_M9 hM, rd_M10 hM, rd_M11 hM, rd_M12 hM, rd_M13 hM, rd_M14 hM, rd_M15 hM, rd_M16 hM, rd_M17 hM, rd_M18 hM, rd_M19 hM, rd_M20 hM, rd_M21 hM, rd_M22 hM, rd_M23 hM, rd_M24 hM, rd_M25 hM, hnha, Jl0, Jl1, Jl2, Jl3, Jl4, Jl5, Jl6, Jl7, Jl8, Jl9, Jl10, Jl11, Jl12, Jl13, Jl14, Jl15, Jl16, Jl17, Jl18, Jl19, Jl20, Jl22, Jl24, Jl28, Jl30, Jl31, Jl32, Jl35, Jl36, Jl37, Jl38, Jl39, Jl40, Jl48, Jl57, Jl59, Jl60, Jl61, Jl63, Jl64, Jl68, Jl69, Jl96, Jl97, Jl98, Jl99, Jl100, Jl122, Jl149, Jl150, Jl165, Jl255, Jl511, Jl512, Jl600, Jl610, Jl940, Jl968, Jl999, Jl1134, Jl1152, Jl2048, Jl4608, Jl9999, Jl99999, Jl100000, Jl147456, Jl12345, Jl1103515245, Jl100000000, Jlm1, Jlm2, J_add, J_sub, J_mul, J_lt, J_le, J_eq, J_ite, J_cl, ri_j, wi_j, b2i_z, b2i_o, b2i_zo, Int.cast_ofNat_Int, Int.natCast_zero, Int.natCast_one, if_true, if_false, ite_self, Int.le_refl, J_bit, J_or, J_neg, J_oN, Int.reduceEq, Int.reduceLT, Int.reduceLE, Int.reduceNeg, Int.reduceAdd, Int.reduceSub, Int.reduceMul, Int.reduceToNat, J_shl, J_shr, V_ite, true_or, or_true, nz_j, J_div, J_rem, Option.bind_some, Option.toList_some, Option.toList_none, List.cons_append, List.nil_append, Jl21, Jl23, Jl25, Jl74, Jl83, Jl288, Jl324, Jl1800, Jlm8]
              rw [if_neg (by omega), e5, b248_87]
              simp (disch := omega) only [b248_93, b248_146, gO_M hM, gR_M0 hM, gR_M1 hM, gR_M11 hM, gR_M13 hM, gR_M14 hM, gR_M15 hM, gR_M16 hM, gR_M17 hM, gR_M22 hM, gR_M32 hM, gR_M33 hM, gR_M34 hM, gR_M35 hM, gR_M36 hM, gR_M37 hM, gR_M38 hM, gR_M41 hM, gR_M42 hM, gR_M43 hM, gR_M45 hM, gR_M46 hM, gR_M47 hM, gR_M50 hM, gR_M51 hM, gR_M52 hM, al_M1 hM, al_M2 hM, al_M3 hM, al_M4 hM, al_M5 hM, al_M6 hM, al_M7 hM, al_M8 hM, al_M9 hM, al_M10 hM, al_M11 hM, al_M12 hM, al_M13 hM, al_M14 hM, al_M15 hM, al_M16 hM, al_M17 hM, al_M18 hM, al_M19 hM, al_M20 hM, al_M21 hM, al_M22 hM, al_M23 hM, al_M24 hM, al_M25 hM, rd_M1 hM, rd_M2 hM, rd_M3 hM, rd_M4 hM, rd_M5 hM, rd_M6 hM, rd_M7 hM, rd_M8 hM, rd_M9 hM, rd_M10 hM, rd_M11 hM, rd_M12 hM, rd_M13 hM, rd_M14 hM, rd_M15 hM, rd_M16 hM, rd_M17 hM, rd_M18 hM, rd_M19 hM, rd_M20 hM, rd_M21 hM, rd_M22 hM, rd_M23 hM, rd_M24 hM, rd_M25 hM, hnh5, Jl0, Jl1, Jl2, Jl3, Jl4, Jl5, Jl6, Jl7, Jl8, Jl9, Jl10, Jl11, Jl12, Jl13, Jl14, Jl15, Jl16, Jl17, Jl18, Jl19, Jl20, Jl22, Jl24, Jl28, Jl30, Jl31, Jl32, Jl35, Jl36, Jl37, Jl38, Jl39, Jl40, Jl48, Jl57, Jl59, Jl60, Jl61, Jl63, Jl64, Jl68, Jl69, Jl96, Jl97, Jl98, Jl99, Jl100, Jl122, Jl149, Jl150, Jl165, Jl255, Jl511, Jl512, Jl600, Jl610, Jl940, Jl968, Jl999, Jl1134, Jl1152, Jl2048, Jl4608, Jl9999, Jl99999, Jl100000, Jl147456, Jl12345, Jl1103515245, Jl100000000, Jlm1, Jlm2, J_add, J_sub, J_mul, J_lt, J_le, J_eq, J_ite, J_cl, ri_j, wi_j, b2i_z, b2i_o, b2i_zo, Int.cast_ofNat_Int, Int.natCast_zero, Int.natCast_one, if_true, if_false, ite_self, Int.le_refl, J_bit, J_or, J_neg, J_oN, Int.reduceEq, Int.reduceLT, Int.reduceLE, Int.reduceNeg, Int.reduceAdd, Int.reduceSub, Int.reduceMul, Int.reduceToNat, J_shl, J_shr, V_ite, true_or, or_true, nz_j, J_div, J_rem, Option.bind_some, Option.toList_some, Option.toList_none, List.cons_append, List.nil_append, Jl21, Jl23, Jl25, Jl74, Jl83, Jl288, Jl324, Jl1800, Jlm8]
            · dsimp only
              have y1 := f4 h q1 q2
              have y2 := d4 h q1 q2
              omega
            · dsimp only
              by_cases ch : h = a
              · rw [ch] at q5 ⊢
                exact f6 k q3 q4 q5
              · rw [f5 h ch]
                exact d5 h k q1 (by omega) q3 q4 q5) (by omega) (M', q6) ⟨c1, c2, c3, fun h _ _ => Int.le_refl _, fun h k q1 q2 => by omega⟩
          dsimp only at e4 d1 d2 d3 d4 d5
          have hR4 := hRf M4 d1
          have hnh4 := nH_sp (E := E) (lo := lo) (d := d) (I := I) (by omega) hM hR4
          refine ⟨(M4, some (.int (J (S 0 0))), q6'), ?_, d1, d2, d3, ?_⟩
          · rw [b248_65]
            simp (disch := omega) only [b248_72, Jl0, Jl1, Jl2, Jl3, Jl4, Jl5, Jl6, Jl7, Jl8, Jl9, Jl10, Jl11, Jl12, Jl13, Jl14, Jl15, Jl16, Jl17, Jl18, Jl19, Jl20, Jl22, Jl24, Jl28, Jl30, Jl31, Jl32, Jl35, Jl36, Jl37, Jl38, Jl39, Jl40, Jl48, Jl57, Jl59, Jl60, Jl61, Jl63, Jl64, Jl68, Jl69, Jl96, Jl97, Jl98, Jl99, Jl100, Jl122, Jl149, Jl150, Jl165, Jl255, Jl511, Jl512, Jl600, Jl610, Jl940, Jl968, Jl999, Jl1134, Jl1152, Jl2048, Jl4608, Jl9999, Jl99999, Jl100000, Jl147456, Jl12345, Jl1103515245, Jl100000000, Jlm1, Jlm2, J_add, J_sub, J_mul, J_lt, J_le, J_eq, J_ite, J_cl, ri_j, wi_j, b2i_z, b2i_o, b2i_zo, Int.cast_ofNat_Int, Int.natCast_zero, Int.natCast_one, if_true, if_false, ite_self, Int.le_refl, J_bit, J_or, J_neg, J_oN, Int.reduceEq, Int.reduceLT, Int.reduceLE, Int.reduceNeg, Int.reduceAdd, Int.reduceSub, Int.reduceMul, Int.reduceToNat, J_shl, J_shr, V_ite, true_or, or_true, nz_j, J_div, J_rem, Option.bind_some, Option.toList_some, Option.toList_none, List.cons_append, List.nil_append, Jl21, Jl23, Jl25, Jl74, Jl83, Jl288, Jl324, Jl1800, Jlm8]
            rw [if_neg (by omega), e4, b248_75]
            simp (disch := omega) only [b248_81, b248_152, gO_M hM, gR_M0 hM, gR_M1 hM, gR_M11 hM, gR_M13 hM, gR_M14 hM, gR_M15 hM, gR_M16 hM, gR_M17 hM, gR_M22 hM, gR_M32 hM, gR_M33 hM, gR_M34 hM, gR_M35 hM, gR_M36 hM, gR_M37 hM, gR_M38 hM, gR_M41 hM, gR_M42 hM, gR_M43 hM, gR_M45 hM, gR_M46 hM, gR_M47 hM, gR_M50 hM, gR_M51 hM, gR_M52 hM, al_M1 hM, al_M2 hM, al_M3 hM, al_M4 hM, al_M5 hM, al_M6 hM, al_M7 hM, al_M8 hM, al_M9 hM, al_M10 hM, al_M11 hM, al_M12 hM, al_M13 hM, al_M14 hM, al_M15 hM, al_M16 hM, al_M17 hM, al_M18 hM, al_M19 hM, al_M20 hM, al_M21 hM, al_M22 hM, al_M23 hM, al_M24 hM, al_M25 hM, rd_M1 hM, rd_M2 hM, rd_M3 hM, rd_M4 hM, rd_M5 hM, rd_M6 hM, rd_M7 hM, rd_M8 hM, rd_M9 hM, rd_M10 hM, rd_M11 hM, rd_M12 hM, rd_M13 hM, rd_M14 hM, rd_M15 hM, rd_M16 hM, rd_M17 hM, rd_M18 hM, rd_M19 hM, rd_M20 hM, rd_M21 hM, rd_M22 hM, rd_M23 hM, rd_M24 hM, rd_M25 hM, hnh4, Jl0, Jl1, Jl2, Jl3, Jl4, Jl5, Jl6, Jl7, Jl8, Jl9, Jl10, Jl11, Jl12, Jl13, Jl14, Jl15, Jl16, Jl17, Jl18, Jl19, Jl20, Jl22, Jl24, Jl28, Jl30, Jl31, Jl32, Jl35, Jl36, Jl37, Jl38, Jl39, Jl40, Jl48, Jl57, Jl59, Jl60, Jl61, Jl63, Jl64, Jl68, Jl69, Jl96, Jl97, Jl98, Jl99, Jl100, Jl122, Jl149, Jl150, Jl165, Jl255, Jl511, Jl512, Jl600, Jl610, Jl940, Jl968, Jl999, Jl1134, Jl1152, Jl2048, Jl4608, Jl9999, Jl99999, Jl100000, Jl147456, Jl12345, Jl1103515245, Jl100000000, Jlm1, Jlm2, J_add, J_sub, J_mul, J_lt, J_le, J_eq, J_ite, J_cl, ri_j, wi_j, b2i_z, b2i_o, b2i_zo, Int.cast_ofNat_Int, Int.natCast_zero, Int.natCast_one, if_true, if_false, ite_self, Int.le_refl, J_bit, J_or, J_neg, J_oN, Int.reduceEq, Int.reduceLT, Int.reduceLE, Int.reduceNeg, Int.reduceAdd, Int.reduceSub, Int.reduceMul, Int.reduceToNat, J_shl, J_shr, V_ite, true_or, or_true, nz_j, J_div, J_rem, Option.bind_some, Option.toList_some, Option.toList_none, List.cons_append, List.nil_append, Jl21, Jl23, Jl25, Jl74, Jl83, Jl288, Jl324, Jl1800, Jlm8]
          · exact bf_turn hV p3 d4 (fun a b q1 q2 q3 q4 q5 => d5 a b q1 q2 q3 q4 q5) c3 c4) (by omega) (M2, none, none) ⟨b1, fun a q1 q2 => by
            dsimp only
            rw [b2 a q1 (by omega)]
            have zz := fw_b hV (inf := 100000000) (by omega) (n := S 0 0) (h := a) (k := z) (by omega) (by omega) (by omega)
            split
            · rename_i h; have := zz.2 h; omega
            · omega, by dsimp only; rw [b2 z p3.1 (by omega), if_pos rfl], by
            dsimp only
            left
            have hz : bfS S z (M2 14) z = true := by
              unfold bfS
              rw [decide_eq_true_eq, b2 z p3.1 (by omega), if_pos rfl]
              have zz := (fw_b hV (inf := 100000000) (by omega) (n := S 0 0) (h := z) (k := z) (by omega) (by omega) (by omega)).2 rfl
              omega
            have := smb_lt (fun _ => false) (bfS S z (M2 14)) p3 (fun _ _ _ q => by cases q) rfl hz
            have z0 : sm (fun _ => b2i false) (S 0 0) = 0 := sm_z _ (by omega) (fun _ _ _ => rfl)
            omega⟩
        dsimp only at e3 c1 c2 c3 c4
        have hall : bfS S z (M3 14) y = true := by
          rcases c4 with c4 | c4
          · have hb := smb_n (n := S 0 0) (by omega)
            cases hy : bfS S z (M3 14) y
            · have := smb_lt (bfS S z (M3 14)) (fun _ => true) p2 (fun _ _ _ _ => rfl) hy rfl
              omega
            · rfl
          · exact c4 y p2.1 p2.2
        unfold bfS at hall
        rw [decide_eq_true_eq] at hall
        have by' := c2 y p2.1 p2.2
        have n1 := (fw_b hV (inf := 100000000) (by omega) (n := S 0 0) (h := y) (k := z) (by omega) (by omega) (by omega)).1
        have n63 := fw_63 hV (inf := 100000000) (by omega) (n := S 0 0) (a := y) (b := z) (by omega) p2 p3
        refine ⟨M3, ?_, by rw [c1 1 (by decide)]; exact m1, by rw [c1 2 (by decide)]; exact m2⟩
        simp (disch := omega) only [b248_0, b248_5, b248_8, b248_13, b248_16, b248_21, b248_26, e248, gO_M hM, gR_M0 hM, gR_M1 hM, gR_M11 hM, gR_M13 hM, gR_M14 hM, gR_M15 hM, gR_M16 hM, gR_M17 hM, gR_M22 hM, gR_M32 hM, gR_M33 hM, gR_M34 hM, gR_M35 hM, gR_M36 hM, gR_M37 hM, gR_M38 hM, gR_M41 hM, gR_M42 hM, gR_M43 hM, gR_M45 hM, gR_M46 hM, gR_M47 hM, gR_M50 hM, gR_M51 hM, gR_M52 hM, al_M1 hM, al_M2 hM, al_M3 hM, al_M4 hM, al_M5 hM, al_M6 hM, al_M7 hM, al_M8 hM, al_M9 hM, al_M10 hM, al_M11 hM, al_M12 hM, al_M13 hM, al_M14 hM, al_M15 hM, al_M16 hM, al_M17 hM, al_M18 hM, al_M19 hM, al_M20 hM, al_M21 hM, al_M22 hM, al_M23 hM, al_M24 hM, al_M25 hM, rd_M1 hM, rd_M2 hM, rd_M3 hM, rd_M4 hM, rd_M5 hM, rd_M6 hM, rd_M7 hM, rd_M8 hM, rd_M9 hM, rd_M10 hM, rd_M11 hM, rd_M12 hM, rd_M13 hM, rd_M14 hM, rd_M15 hM, rd_M16 hM, rd_M17 hM, rd_M18 hM, rd_M19 hM, rd_M20 hM, rd_M21 hM, rd_M22 hM, rd_M23 hM, rd_M24 hM, rd_M25 hM, gP_M hM hl, wr_M1 hM hl, wr_M2 hM hl, wr_M3 hM hl, wr_M4 hM hl, wr_M5 hM hl, wr_M6 hM hl, wr_M7 hM hl, wr_M8 hM hl, wr_M9 hM hl, wr_M10 hM hl, wr_M11 hM hl, wr_M12 hM hl, wr_M13 hM hl, wr_M14 hM hl, wr_M15 hM hl, wr_M16 hM hl, wr_M17 hM hl, wr_M18 hM hl, wr_M19 hM hl, wr_M20 hM hl, wr_M21 hM hl, wr_M22 hM hl, wr_M23 hM hl, wr_M24 hM hl, wr_M25 hM hl, sB_0, sB_c, u3_sB0, u3_sB, u3_s, u3_n, Nat.reduceLT, e1, iH_sp, p2, p3, and_self, decide_true, Bool.true_eq_false, Jl0, Jl1, Jl2, Jl3, Jl4, Jl5, Jl6, Jl7, Jl8, Jl9, Jl10, Jl11, Jl12, Jl13, Jl14, Jl15, Jl16, Jl17, Jl18, Jl19, Jl20, Jl22, Jl24, Jl28, Jl30, Jl31, Jl32, Jl35, Jl36, Jl37, Jl38, Jl39, Jl40, Jl48, Jl57, Jl59, Jl60, Jl61, Jl63, Jl64, Jl68, Jl69, Jl96, Jl97, Jl98, Jl99, Jl100, Jl122, Jl149, Jl150, Jl165, Jl255, Jl511, Jl512, Jl600, Jl610, Jl940, Jl968, Jl999, Jl1134, Jl1152, Jl2048, Jl4608, Jl9999, Jl99999, Jl100000, Jl147456, Jl12345, Jl1103515245, Jl100000000, Jlm1, Jlm2, J_add, J_sub, J_mul, J_lt, J_le, J_eq, J_ite, J_cl, ri_j, wi_j, b2i_z, b2i_o, b2i_zo, Int.cast_ofNat_Int, Int.natCast_zero, Int.natCast_one, if_true, if_false, ite_self, Int.le_refl, J_bit, J_or, J_neg, J_oN, Int.reduceEq, Int.reduceLT, Int.reduceLE, Int.reduceNeg, Int.reduceAdd, Int.reduceSub, Int.reduceMul, Int.reduceToNat, J_shl, J_shr, V_ite, true_or, or_true, nz_j, J_div, J_rem, Option.bind_some, Option.toList_some, Option.toList_none, List.cons_append, List.nil_append, Jl21, Jl23, Jl25, Jl74, Jl83, Jl288, Jl324, Jl1800, Jlm8]
        rw [e2, b248_29]
        simp (disch := omega) only [b248_62, Jl0, Jl1, Jl2, Jl3, Jl4, Jl5, Jl6, Jl7, Jl8, Jl9, Jl10, Jl11, Jl12, Jl13, Jl14, Jl15, Jl16, Jl17, Jl18, Jl19, Jl20, Jl22, Jl24, Jl28, Jl30, Jl31, Jl32, Jl35, Jl36, Jl37, Jl38, Jl39, Jl40, Jl48, Jl57, Jl59, Jl60, Jl61, Jl63, Jl64, Jl68, Jl69, Jl96, Jl97, Jl98, Jl99, Jl100, Jl122, Jl149, Jl150, Jl165, Jl255, Jl511, Jl512, Jl600, Jl610, Jl940, Jl968, Jl999, Jl1134, Jl1152, Jl2048, Jl4608, Jl9999, Jl99999, Jl100000, Jl147456, Jl12345, Jl1103515245, Jl100000000, Jlm1, Jlm2, J_add, J_sub, J_mul, J_lt, J_le, J_eq, J_ite, J_cl, ri_j, wi_j, b2i_z, b2i_o, b2i_zo, Int.cast_ofNat_Int, Int.natCast_zero, Int.natCast_one, if_true, if_false, ite_self, Int.le_refl, J_bit, J_or, J_neg, J_oN, Int.reduceEq, Int.reduceLT, Int.reduceLE, Int.reduceNeg, Int.reduceAdd, Int.reduceSub, Int.reduceMul, Int.reduceToNat, J_shl, J_shr, V_ite, true_or, or_true, nz_j, J_div, J_rem, Option.bind_some, Option.toList_some, Option.toList_none, List.cons_append, List.nil_append, Jl21, Jl23, Jl25, Jl74, Jl83, Jl288, Jl324, Jl1800, Jlm8]
        rw [e3, b248_65]
        by_cases cf : fwQ S 100000000 (S 0 0) y z < 100000000
        · have e14 : M3 14 y = fwQ S 100000000 (S 0 0) y z := by
            have := n63 cf
            omega
          have := n63 cf
          rw [if_pos cf]
          simp (disch := omega) only [b248_158, b248_174, b248_180, gO_M hM, gR_M0 hM, gR_M1 hM, gR_M11 hM, gR_M13 hM, gR_M14 hM, gR_M15 hM, gR_M16 hM, gR_M17 hM, gR_M22 hM, gR_M32 hM, gR_M33 hM, gR_M34 hM, gR_M35 hM, gR_M36 hM, gR_M37 hM, gR_M38 hM, gR_M41 hM, gR_M42 hM, gR_M43 hM, gR_M45 hM, gR_M46 hM, gR_M47 hM, gR_M50 hM, gR_M51 hM, gR_M52 hM, al_M1 hM, al_M2 hM, al_M3 hM, al_M4 hM, al_M5 hM, al_M6 hM, al_M7 hM, al_M8 hM, al_M9 hM, al_M10 hM, al_M11 hM, al_M12 hM, al_M13 hM, al_M14 hM, al_M15 hM, al_M16 hM, al_M17 hM, al_M18 hM, al_M19 hM, al_M20 hM, al_M21 hM, al_M22 hM, al_M23 hM, al_M24 hM, al_M25 hM, rd_M1 hM, rd_M2 hM, rd_M3 hM, rd_M4 hM, rd_M5 hM, rd_M6 hM, rd_M7 hM, rd_M8 hM, rd_M9 hM, rd_M10 hM, rd_M11 hM, rd_M12 hM, rd_M13 hM, rd_M14 hM, rd_M15 hM, rd_M16 hM, rd_M17 hM, rd_M18 hM, rd_M19 hM, rd_M20 hM, rd_M21 hM, rd_M22 hM, rd_M23 hM, rd_M24 hM, rd_M25 hM, sB_0, sB_c, u3_sB0, u3_sB, u3_s, u3_n, Nat.reduceLT, e14, Jl0, Jl1, Jl2, Jl3, Jl4, Jl5, Jl6, Jl7, Jl8, Jl9, Jl10, Jl11, Jl12, Jl13, Jl14, Jl15, Jl16, Jl17, Jl18, Jl19, Jl20, Jl22, Jl24, Jl28, Jl30, Jl31, Jl32, Jl35, Jl36, Jl37, Jl38, Jl39, Jl40, Jl48, Jl57, Jl59, Jl60, Jl61, Jl63, Jl64, Jl68, Jl69, Jl96, Jl97, Jl98, Jl99, Jl100, Jl122, Jl149, Jl150, Jl165, Jl255, Jl511, Jl512, Jl600, Jl610, Jl940, Jl968, Jl999, Jl1134, Jl1152, Jl2048, Jl4608, Jl9999, Jl99999, Jl100000, Jl147456, Jl12345, Jl1103515245, Jl100000000, Jlm1, Jlm2, J_add, J_sub, J_mul, J_lt, J_le, J_eq, J_ite, J_cl, ri_j, wi_j, b2i_z, b2i_o, b2i_zo, Int.cast_ofNat_Int, Int.natCast_zero, Int.natCast_one, if_true, if_false, ite_self, Int.le_refl, J_bit, J_or, J_neg, J_oN, Int.reduceEq, Int.reduceLT, Int.reduceLE, Int.reduceNeg, Int.reduceAdd, Int.reduceSub, Int.reduceMul, Int.reduceToNat, J_shl, J_shr, V_ite, true_or, or_true, nz_j, J_div, J_rem, Option.bind_some, Option.toList_some, Option.toList_none, List.cons_append, List.nil_append, Jl21, Jl23, Jl25, Jl74, Jl83, Jl288, Jl324, Jl1800, Jlm8]
          repeat (first | rw [if_neg (by omega)] | rw [if_pos (by omega)])
        · rw [if_neg cf]
          have e14 : M3 14 y = 9999 := by omega
          simp (disch := omega) only [b248_158, b248_170, b248_180, gO_M hM, gR_M0 hM, gR_M1 hM, gR_M11 hM, gR_M13 hM, gR_M14 hM, gR_M15 hM, gR_M16 hM, gR_M17 hM, gR_M22 hM, gR_M32 hM, gR_M33 hM, gR_M34 hM, gR_M35 hM, gR_M36 hM, gR_M37 hM, gR_M38 hM, gR_M41 hM, gR_M42 hM, gR_M43 hM, gR_M45 hM, gR_M46 hM, gR_M47 hM, gR_M50 hM, gR_M51 hM, gR_M52 hM, al_M1 hM, al_M2 hM, al_M3 hM, al_M4 hM, al_M5 hM, al_M6 hM, al_M7 hM, al_M8 hM, al_M9 hM, al_M10 hM, al_M11 hM, al_M12 hM, al_M13 hM, al_M14 hM, al_M15 hM, al_M16 hM, al_M17 hM, al_M18 hM, al_M19 hM, al_M20 hM, al_M21 hM, al_M22 hM, al_M23 hM, al_M24 hM, al_M25 hM, rd_M1 hM, rd_M2 hM, rd_M3 hM, rd_M4 hM, rd_M5 hM, rd_M6 hM, rd_M7 hM, rd_M8 hM, rd_M9 hM, rd_M10 hM, rd_M11 hM, rd_M12 hM, rd_M13 hM, rd_M14 hM, rd_M15 hM, rd_M16 hM, rd_M17 hM, rd_M18 hM, rd_M19 hM, rd_M20 hM, rd_M21 hM, rd_M22 hM, rd_M23 hM, rd_M24 hM, rd_M25 hM, sB_0, sB_c, u3_sB0, u3_sB, u3_s, u3_n, Nat.reduceLT, e14, Jl0, Jl1, Jl2, Jl3, Jl4, Jl5, Jl6, Jl7, Jl8, Jl9, Jl10, Jl11, Jl12, Jl13, Jl14, Jl15, Jl16, Jl17, Jl18, Jl19, Jl20, Jl22, Jl24, Jl28, Jl30, Jl31, Jl32, Jl35, Jl36, Jl37, Jl38, Jl39, Jl40, Jl48, Jl57, Jl59, Jl60, Jl61, Jl63, Jl64, Jl68, Jl69, Jl96, Jl97, Jl98, Jl99, Jl100, Jl122, Jl149, Jl150, Jl165, Jl255, Jl511, Jl512, Jl600, Jl610, Jl940, Jl968, Jl999, Jl1134, Jl1152, Jl2048, Jl4608, Jl9999, Jl99999, Jl100000, Jl147456, Jl12345, Jl1103515245, Jl100000000, Jlm1, Jlm2, J_add, J_sub, J_mul, J_lt, J_le, J_eq, J_ite, J_cl, ri_j, wi_j, b2i_z, b2i_o, b2i_zo, Int.cast_ofNat_Int, Int.natCast_zero, Int.natCast_one, if_true, if_false, ite_self, Int.le_refl, J_bit, J_or, J_neg, J_oN, Int.reduceEq, Int.reduceLT, Int.reduceLE, Int.reduceNeg, Int.reduceAdd, Int.reduceSub, Int.reduceMul, Int.reduceToNat, J_shl, J_shr, V_ite, true_or, or_true, nz_j, J_div, J_rem, Option.bind_some, Option.toList_some, Option.toList_none, List.cons_append, List.nil_append, Jl21, Jl23, Jl25, Jl74, Jl83, Jl288, Jl324, Jl1800, Jlm8]
      · rw [if_neg (fun q => p3 q.2.2)]
        refine ⟨M1, ?_, m1, m2⟩
        simp (disch := omega) only [b248_0, b248_5, b248_8, b248_13, b248_16, b248_21, b248_24, e248, gO_M hM, gR_M0 hM, gR_M1 hM, gR_M11 hM, gR_M13 hM, gR_M14 hM, gR_M15 hM, gR_M16 hM, gR_M17 hM, gR_M22 hM, gR_M32 hM, gR_M33 hM, gR_M34 hM, gR_M35 hM, gR_M36 hM, gR_M37 hM, gR_M38 hM, gR_M41 hM, gR_M42 hM, gR_M43 hM, gR_M45 hM, gR_M46 hM, gR_M47 hM, gR_M50 hM, gR_M51 hM, gR_M52 hM, al_M1 hM, al_M2 hM, al_M3 hM, al_M4 hM, al_M5 hM, al_M6 hM, al_M7 hM, al_M8 hM, al_M9 hM, al_M10 hM, al_M11 hM, al_M12 hM, al_M13 hM, al_M14 hM, al_M15 hM, al_M16 hM, al_M17 hM, al_M18 hM, al_M19 hM, al_M20 hM, al_M21 hM, al_M22 hM, al_M23 hM, al_M24 hM, al_M25 hM, rd_M1 hM, rd_M2 hM, rd_M3 hM, rd_M4 hM, rd_M5 hM, rd_M6 hM, rd_M7 hM, rd_M8 hM, rd_M9 hM, rd_M10 hM, rd_M11 hM, rd_M12 hM, rd_M13 hM, rd_M14 hM, rd_M15 hM, rd_M16 hM, rd_M17 hM, rd_M18 hM, rd_M19 hM, rd_M20 hM, rd_M21 hM, rd_M22 hM, rd_M23 hM, rd_M24 hM, rd_M25 hM, gP_M hM hl, wr_M1 hM hl, wr_M2 hM hl, wr_M3 hM hl, wr_M4 hM hl, wr_M5 hM hl, wr_M6 hM hl, wr_M7 hM hl, wr_M8 hM hl, wr_M9 hM hl, wr_M10 hM hl, wr_M11 hM hl, wr_M12 hM hl, wr_M13 hM hl, wr_M14 hM hl, wr_M15 hM hl, wr_M16 hM hl, wr_M17 hM hl, wr_M18 hM hl, wr_M19 hM hl, wr_M20 hM hl, wr_M21 hM hl, wr_M22 hM hl, wr_M23 hM hl, wr_M24 hM hl, wr_M25 hM hl, sB_0, sB_c, u3_sB0, u3_sB, u3_s, u3_n, Nat.reduceLT, e1, iH_sp, p2, p3, and_self, decide_true, decide_false, Bool.true_eq_false, Jl0, Jl1, Jl2, Jl3, Jl4, Jl5, Jl6, Jl7, Jl8, Jl9, Jl10, Jl11, Jl12, Jl13, Jl14, Jl15, Jl16, Jl17, Jl18, Jl19, Jl20, Jl22, Jl24, Jl28, Jl30, Jl31, Jl32, Jl35, Jl36, Jl37, Jl38, Jl39, Jl40, Jl48, Jl57, Jl59, Jl60, Jl61, Jl63, Jl64, Jl68, Jl69, Jl96, Jl97, Jl98, Jl99, Jl100, Jl122, Jl149, Jl150, Jl165, Jl255, Jl511, Jl512, Jl600, Jl610, Jl940, Jl968, Jl999, Jl1134, Jl1152, Jl2048, Jl4608, Jl9999, Jl99999, Jl100000, Jl147456, Jl12345, Jl1103515245, Jl100000000, Jlm1, Jlm2, J_add, J_sub, J_mul, J_lt, J_le, J_eq, J_ite, J_cl, ri_j, wi_j, b2i_z, b2i_o, b2i_zo, Int.cast_ofNat_Int, Int.natCast_zero, Int.natCast_one, if_true, if_false, ite_self, Int.le_refl, J_bit, J_or, J_neg, J_oN, Int.reduceEq, Int.reduceLT, Int.reduceLE, Int.reduceNeg, Int.reduceAdd, Int.reduceSub, Int.reduceMul, Int.reduceToNat, J_shl, J_shr, V_ite, true_or, or_true, nz_j, J_div, J_rem, Option.bind_some, Option.toList_some, Option.toList_none, List.cons_append, List.nil_append, Jl21, Jl23, Jl25, Jl74, Jl83, Jl288, Jl324, Jl1800, Jlm8]
    · rw [if_neg (fun q => p2 q.2.1)]
      refine ⟨M1, ?_, m1, m2⟩
      simp (disch := omega) only [b248_0, b248_5, b248_8, b248_13, b248_24, e248, gO_M hM, gR_M0 hM, gR_M1 hM, gR_M11 hM, gR_M13 hM, gR_M14 hM, gR_M15 hM, gR_M16 hM, gR_M17 hM, gR_M22 hM, gR_M32 hM, gR_M33 hM, gR_M34 hM, gR_M35 hM, gR_M36 hM, gR_M37 hM, gR_M38 hM, gR_M41 hM, gR_M42 hM, gR_M43 hM, gR_M45 hM, gR_M46 hM, gR_M47 hM, gR_M50 hM, gR_M51 hM, gR_M52 hM, al_M1 hM, al_M2 hM, al_M3 hM, al_M4 hM, al_M5 hM, al_M6 hM, al_M7 hM, al_M8 hM, al_M9 hM, al_M10 hM, al_M11 hM, al_M12 hM, al_M13 hM, al_M14 hM, al_M15 hM, al_M16 hM, al_M17 hM, al_M18 hM, al_M19 hM, al_M20 hM, al_M21 hM, al_M22 hM, al_M23 hM, al_M24 hM, al_M25 hM, rd_M1 hM, rd_M2 hM, rd_M3 hM, rd_M4 hM, rd_M5 hM, rd_M6 hM, rd_M7 hM, rd_M8 hM, rd_M9 hM, rd_M10 hM, rd_M11 hM, rd_M12 hM, rd_M13 hM, rd_M14 hM, rd_M15 hM, rd_M16 hM, rd_M17 hM, rd_M18 hM, rd_M19 hM, rd_M20 hM, rd_M21 hM, rd_M22 hM, rd_M23 hM, rd_M24 hM, rd_M25 hM, gP_M hM hl, wr_M1 hM hl, wr_M2 hM hl, wr_M3 hM hl, wr_M4 hM hl, wr_M5 hM hl, wr_M6 hM hl, wr_M7 hM hl, wr_M8 hM hl, wr_M9 hM hl, wr_M10 hM hl, wr_M11 hM hl, wr_M12 hM hl, wr_M13 hM hl, wr_M14 hM hl, wr_M15 hM hl, wr_M16 hM hl, wr_M17 hM hl, wr_M18 hM hl, wr_M19 hM hl, wr_M20 hM hl, wr_M21 hM hl, wr_M22 hM hl, wr_M23 hM hl, wr_M24 hM hl, wr_M25 hM hl, sB_0, sB_c, u3_sB0, u3_sB, u3_s, u3_n, Nat.reduceLT, e1, iH_sp, p2, decide_false, Bool.true_eq_false, Jl0, Jl1, Jl2, Jl3, Jl4, Jl5, Jl6, Jl7, Jl8, Jl9, Jl10, Jl11, Jl12, Jl13, Jl14, Jl15, Jl16, Jl17, Jl18, Jl19, Jl20, Jl22, Jl24, Jl28, Jl30, Jl31, Jl32, Jl35, Jl36, Jl37, Jl38, Jl39, Jl40, Jl48, Jl57, Jl59, Jl60, Jl61, Jl63, Jl64, Jl68, Jl69, Jl96, Jl97, Jl98, Jl99, Jl100, Jl122, Jl149, Jl150, Jl165, Jl255, Jl511, Jl512, Jl600, Jl610, Jl940, Jl968, Jl999, Jl1134, Jl1152, Jl2048, Jl4608, Jl9999, Jl99999, Jl100000, Jl147456, Jl12345, Jl1103515245, Jl100000000, Jlm1, Jlm2, J_add, J_sub, J_mul, J_lt, J_le, J_eq, J_ite, J_cl, ri_j, wi_j, b2i_z, b2i_o, b2i_zo, Int.cast_ofNat_Int, Int.natCast_zero, Int.natCast_one, if_true, if_false, ite_self, Int.le_refl, J_bit, J_or, J_neg, J_oN, Int.reduceEq, Int.reduceLT, Int.reduceLE, Int.reduceNeg, Int.reduceAdd, Int.reduceSub, Int.reduceMul, Int.reduceToNat, J_shl, J_shr, V_ite, true_or, or_true, nz_j, J_div, J_rem, Option.bind_some, Option.toList_some, Option.toList_none, List.cons_append, List.nil_append, Jl21, Jl23, Jl25, Jl74, Jl83, Jl288, Jl324, Jl1800, Jlm8]
  · rw [decide_eq_false p1] at e1
    rw [if_neg (fun q => p1 q.1)]
    refine ⟨M1, ?_, m1, m2⟩
    simp (disch := omega) only [b248_0, b248_5, b248_24, e248, gO_M hM, gR_M0 hM, gR_M1 hM, gR_M11 hM, gR_M13 hM, gR_M14 hM, gR_M15 hM, gR_M16 hM, gR_M17 hM, gR_M22 hM, gR_M32 hM, gR_M33 hM, gR_M34 hM, gR_M35 hM, gR_M36 hM, gR_M37 hM, gR_M38 hM, gR_M41 hM, gR_M42 hM, gR_M43 hM, gR_M45 hM, gR_M46 hM, gR_M47 hM, gR_M50 hM, gR_M51 hM, gR_M52 hM, al_M1 hM, al_M2 hM, al_M3 hM, al_M4 hM, al_M5 hM, al_M6 hM, al_M7 hM, al_M8 hM, al_M9 hM, al_M10 hM, al_M11 hM, al_M12 hM, al_M13 hM, al_M14 hM, al_M15 hM, al_M16 hM, al_M17 hM, al_M18 hM, al_M19 hM, al_M20 hM, al_M21 hM, al_M22 hM, al_M23 hM, al_M24 hM, al_M25 hM, rd_M1 hM, rd_M2 hM, rd_M3 hM, rd_M4 hM, rd_M5 hM, rd_M6 hM, rd_M7 hM, rd_M8 hM, rd_M9 hM, rd_M10 hM, rd_M11 hM, rd_M12 hM, rd_M13 hM, rd_M14 hM, rd_M15 hM, rd_M16 hM, rd_M17 hM, rd_M18 hM, rd_M19 hM, rd_M20 hM, rd_M21 hM, rd_M22 hM, rd_M23 hM, rd_M24 hM, rd_M25 hM, gP_M hM hl, wr_M1 hM hl, wr_M2 hM hl, wr_M3 hM hl, wr_M4 hM hl, wr_M5 hM hl, wr_M6 hM hl, wr_M7 hM hl, wr_M8 hM hl, wr_M9 hM hl, wr_M10 hM hl, wr_M11 hM hl, wr_M12 hM hl, wr_M13 hM hl, wr_M14 hM hl, wr_M15 hM hl, wr_M16 hM hl, wr_M17 hM hl, wr_M18 hM hl, wr_M19 hM hl, wr_M20 hM hl, wr_M21 hM hl, wr_M22 hM hl, wr_M23 hM hl, wr_M24 hM hl, wr_M25 hM hl, sB_0, sB_c, u3_sB0, u3_sB, u3_s, u3_n, Nat.reduceLT, e1, b2i_f, Jl0, Jl1, Jl2, Jl3, Jl4, Jl5, Jl6, Jl7, Jl8, Jl9, Jl10, Jl11, Jl12, Jl13, Jl14, Jl15, Jl16, Jl17, Jl18, Jl19, Jl20, Jl22, Jl24, Jl28, Jl30, Jl31, Jl32, Jl35, Jl36, Jl37, Jl38, Jl39, Jl40, Jl48, Jl57, Jl59, Jl60, Jl61, Jl63, Jl64, Jl68, Jl69, Jl96, Jl97, Jl98, Jl99, Jl100, Jl122, Jl149, Jl150, Jl165, Jl255, Jl511, Jl512, Jl600, Jl610, Jl940, Jl968, Jl999, Jl1134, Jl1152, Jl2048, Jl4608, Jl9999, Jl99999, Jl100000, Jl147456, Jl12345, Jl1103515245, Jl100000000, Jlm1, Jlm2, J_add, J_sub, J_mul, J_lt, J_le, J_eq, J_ite, J_cl, ri_j, wi_j, b2i_z, b2i_o, b2i_zo, Int.cast_ofNat_Int, Int.natCast_zero, Int.natCast_one, if_true, if_false, ite_self, Int.le_refl, J_bit, J_or, J_neg, J_oN, Int.reduceEq, Int.reduceLT, Int.reduceLE, Int.reduceNeg, Int.reduceAdd, Int.reduceSub, Int.reduceMul, Int.reduceToNat, J_shl, J_shr, V_ite, true_or, or_true, nz_j, J_div, J_rem, Option.bind_some, Option.toList_some, Option.toList_none, List.cons_append, List.nil_append, Jl21, Jl23, Jl25, Jl74, Jl83, Jl288, Jl324, Jl1800, Jlm8]
end REF
