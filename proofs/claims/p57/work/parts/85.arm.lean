set_option maxRecDepth 16384
/-! arm: both sides. -/
def zseat (c l : Int) : Int := (61 * c + 17 * l) % 100
theorem zseat_e {c l : Int} (c0 : 0 ≤ c) (c1 : c < 200) (l0 : 0 ≤ l) (l1 : l ≤ 2) : ((((61 : Int32) * zE c) + ((17 : Int32) * zE l)) - (((61 : Int32) * zE c) + ((17 : Int32) * zE l)) / (100 : Int32) * (100 : Int32)) = zE (zseat c l) := by
  rw [zE_61, zE_17, zE_100, zE_mul, zE_mul, zE_add, zE_rem (by omega) (by omega) (by omega) (by omega)]
  rfl
