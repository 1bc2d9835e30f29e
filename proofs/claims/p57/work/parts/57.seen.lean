set_option maxRecDepth 16384
/-! Calls on what is live and what is seen: both sides. -/
