set_option maxRecDepth 16384
/-! The calls that change nothing: both sides. -/
