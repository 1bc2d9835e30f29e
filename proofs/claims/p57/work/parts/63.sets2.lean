set_option maxRecDepth 16384
/-! kill, expand, halt: both sides. -/
