set_option maxRecDepth 16384
/-! stale, halt, rise. -/
def zstl (s : zS) : Nat → Int32
  | 0 => zE 0
  | n + 1 => if s 1 0 - s 64 n < 500 then zstl s n else zstl s n ||| (zE 1 <<< (zE n &&& 31))
theorem zw_9_5n {h : zH} {s : zS} {v : Int} {x : Int32} (hC : zCl h s) (h0 : 0 ≤ v) (h1 : v < 4) : zCl (zsi (zsi h 9 v.toNat 4 x) 9 v.toNat 5 (zE (-1))) (zup s 23 v (-1)) := by
  obtain ⟨c1, c2, c3, c4, c5, c6, c7, c8, c9, c10, c11, c12, c13, c14⟩ := hC
  refine ⟨c1, c2, c3, c4, c5, c6, c7, c8, ⟨c9.1, fun u u0 u1 => ?_⟩, c10, c11, c12, zCM_w c13 ((zKp_i (by decide)).tr (zKp_i (by decide))) rfl rfl rfl rfl, c14⟩
  obtain ⟨p0, p1, p2, p3, p4, p5, p6, p7, p8, p9, p10, p11, p12, p13, p14⟩ := c9.2 u u0 u1
  by_cases eu : u = v
  · subst eu
    exact ⟨p0, p1, p2, p3, p4, p5, p6, p7, p8, p9, (zi_j (by decide)).trans ((zi_j (by decide)).trans p10), fun z => absurd zup_s z, zi_s.trans (congrArg zE zup_s.symm), (zi_j (by decide)).trans ((zi_j (by decide)).trans p13), (zi_j (by decide)).trans ((zi_j (by decide)).trans p14)⟩
  · have e2 : u.toNat ≠ v.toNat := by omega
    have e3 : zup s 23 v (-1) 23 u = s 23 u := zup_a eu
    exact ⟨p0, p1, p2, p3, p4, p5, p6, p7, p8, p9, (zi_j (by decide)).trans ((zi_j (by decide)).trans p10), fun z => (zi_j (by decide)).trans ((zi_i e2).trans (p11 (by rw [e3] at z; exact z))), (zi_i e2).trans ((zi_j (by decide)).trans (p12.trans (congrArg zE e3.symm))), (zi_j (by decide)).trans ((zi_j (by decide)).trans p13), (zi_j (by decide)).trans ((zi_j (by decide)).trans p14)⟩
