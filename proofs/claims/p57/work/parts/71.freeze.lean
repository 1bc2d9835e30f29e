set_option maxRecDepth 16384
/-! freeze. -/
theorem zxo {p q r b : Int} (hp : 0 ≤ p ∧ p ≤ 1) (hq : 0 ≤ q ∧ q ≤ 1) (hr : 0 ≤ r ∧ r ≤ 1) (hb : 0 ≤ b ∧ b ≤ 2) : ∃ w, (zE (p + (2 * q + 4 * r)) ^^^ (zE 1 <<< (zE b &&& 31))) = zE w ∧ (0 ≤ w ∧ w ≤ 7) ∧ w = (if b = 0 then 1 - p else p) + (2 * (if b = 1 then 1 - q else q) + 4 * (if b = 2 then 1 - r else r)) ∧ (zbt w b ↔ (if b = 0 then 1 - p else if b = 1 then 1 - q else 1 - r) = 1) := by
  obtain rfl | rfl : p = 0 ∨ p = 1 := by omega
  all_goals obtain rfl | rfl : q = 0 ∨ q = 1 := by omega
  all_goals obtain rfl | rfl : r = 0 ∨ r = 1 := by omega
  all_goals obtain rfl | rfl | rfl : b = 0 ∨ b = 1 ∨ b = 2 := by omega
  all_goals exact ⟨_, by decide +kernel, by decide, rfl, by decide⟩
noncomputable def zfw (s : zS) (g : Int) : Int := s 56 (3 * g) + (2 * s 56 (3 * g + 1) + 4 * s 56 (3 * g + 2))
theorem zw_35 {h : zH} {s : zS} {a b v w : Int} (hC : zCl h s) (a0 : 0 ≤ a) (a1 : a < 3) (b0 : 0 ≤ b ∧ b ≤ 2) (e : w = zfw (zup s 56 (3 * a + b) v) a) : zCl (zsi h 35 0 a.toNat (zE w)) (zup s 56 (3 * a + b) v) := by
  obtain ⟨c1, c2, c3, c4, c5, c6, c7, c8, c9, c10, c11, c12, c13, c14⟩ := hC
  refine ⟨c1, c2, c3, c4, c5, c6, c7, c8, c9, c10, c11, ⟨c12.1, fun u u0 u1 => ?_, c12.2.2⟩, zCM_w c13 (zKp_i (by decide)) rfl rfl rfl rfl, c14⟩
  obtain ⟨p0, p1⟩ := c12.2.1 u u0 u1
  by_cases eu : u = a
  · subst eu
    exact ⟨zi_s.trans (congrArg zE e), p1⟩
  · refine ⟨(zi_j (by omega)).trans (p0.trans (congrArg zE ?_)), p1⟩
    rw [zup_a (show 3 * u ≠ 3 * a + b by omega), zup_a (show 3 * u + 1 ≠ 3 * a + b by omega), zup_a (show 3 * u + 2 ≠ 3 * a + b by omega)]
