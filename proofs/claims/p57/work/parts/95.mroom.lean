set_option maxRecDepth 16384
/-! Whether there is room: the model's side. -/
