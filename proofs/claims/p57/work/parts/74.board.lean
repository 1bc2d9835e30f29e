set_option maxRecDepth 16384
/-! board. -/
theorem zr_i {h : zH} {k i j i' j' : Nat} {v : zq} (e : i' ≠ i) : zr (zsr h k i j v) k i' j' = zr h k i' j' := if_neg fun z => e z.2.1
theorem zw_5_7 {h : zH} {s : zS} {r a : Int} (hC : zCl h s) (h0 : 0 ≤ r) (h1 : r < s 30 0) : zCl (zsr h 5 r.toNat 7 (zrf 11 a)) (zup s 40 r a) := by
  obtain ⟨c1, c2, c3, c4, c5, c6, c7, c8, c9, c10, c11, c12, c13, c14⟩ := hC
  refine ⟨c1, c2, c3, c4, ⟨c5.1, fun u u0 u1 => ?_⟩, c6, c7, c8, c9, c10, c11, c12, zCM_w c13 (zKp_r (by decide)) rfl rfl rfl rfl, c14⟩
  obtain ⟨p0, p1, p2, p3, p4, p5, p6, p7, p8, p9, p10, p11, p12, p13, p14, p15⟩ := c5.2 u u0 u1
  by_cases eu : u = r
  · subst eu
    exact ⟨p0, (zr_j (by decide)).trans p1, (zr_j (by decide)).trans p2, p3, p4, p5, p6, p7, p8, zr_s.trans (congrArg (zrf 11) zup_s.symm), (zr_j (by decide)).trans p10, (zr_j (by decide)).trans p11, p12, p13, p14, p15⟩
  · have e2 : u.toNat ≠ r.toNat := by omega
    exact ⟨p0, (zr_j (by decide)).trans p1, (zr_j (by decide)).trans p2, p3, p4, p5, p6, p7, p8, (zr_i e2).trans (p9.trans (congrArg (zrf 11) (zup_a eu).symm)), (zr_j (by decide)).trans p10, (zr_j (by decide)).trans p11, p12, p13, p14, p15⟩
