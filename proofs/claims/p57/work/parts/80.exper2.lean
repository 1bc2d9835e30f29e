set_option maxRecDepth 16384
/-! experiment: both sides. -/
def zexP (s : zS) (a c d e : Int) : Prop := s 77 e = 0 ∧ s 72 e = a ∧ s 74 e ≤ d ∧ c ≤ s 75 e
