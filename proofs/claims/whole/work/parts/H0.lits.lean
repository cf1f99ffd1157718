/-! FURTHER NUMBERS -/
theorem Jl21 : (21 : Int32) = J 21 := by decide
theorem Jl23 : (23 : Int32) = J 23 := by decide
theorem Jl25 : (25 : Int32) = J 25 := by decide
theorem Jl74 : (74 : Int32) = J 74 := by decide
theorem Jl83 : (83 : Int32) = J 83 := by decide
theorem Jl288 : (288 : Int32) = J 288 := by decide
theorem Jl324 : (324 : Int32) = J 324 := by decide
theorem Jl1800 : (1800 : Int32) = J 1800 := by decide
theorem Jlm8 : (-8 : Int32) = J (-8) := by decide
