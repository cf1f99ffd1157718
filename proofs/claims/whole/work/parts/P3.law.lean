/-! THE LAW: one step -/
/-- both have answered alike, and go on -/
def STP (E : (Nat → Value) × (Nat → Nat)) (lo b L d : Nat) (i : Int) (r : Option rRs) : Prop := ∃ μ' I', r = ex PG E lo d 312 1827 [some (.ref b), some (.ref lo), some (.ref ((lo + 146))), some (.int (J (i)))] [] (mj μ' I') ∧ INV E lo b L μ' I'
theorem lgs (x : Int64) : lg_cmp x x = J 0 := by
  have h : ∀ v : Int, x = K v → lg_cmp x x = J 0 := fun v e => by
    unfold lg_cmp
    simp
    rfl
  exact h x.toInt (K_of x).symm
