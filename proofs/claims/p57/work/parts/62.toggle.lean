set_option maxRecDepth 16384
/-! Calls that turn one thing: both sides. -/
theorem zE_01 {v : Int} (h : v = 0 ∨ v = 1) : zE v = 0 ∨ zE v = 1 := by
  rcases h with rfl | rfl
  · exact Or.inl rfl
  · exact Or.inr rfl
