set_option maxRecDepth 16384
/-! Calls that set one thing: both sides. -/
