set_option maxRecDepth 16384
/-! migrate, contract. -/
def zmgP (s : zS) (v k a : Int) : Prop := zlv s a (-1) ∧ s 3 a = v ∧ ¬ zbt (s 8 a) k
def zctP (s : zS) (v k a : Int) : Prop := zlv s a (-1) ∧ s 3 a = v ∧ s 9 a = k
theorem zw_9_456 {h : zH} {s : zS} {v x y : Int} (hC : zCl h s) (h0 : 0 ≤ v) (h1 : v < 4) : zCl (zsi (zsi (zsi h 9 v.toNat 4 (zE x)) 9 v.toNat 5 (zE y)) 9 v.toNat 6 (zE 0)) (zup (zup (zup s 22 v x) 23 v y) 24 v 0) := by
  obtain ⟨c1, c2, c3, c4, c5, c6, c7, c8, c9, c10, c11, c12, c13, c14⟩ := hC
  refine ⟨c1, c2, c3, c4, c5, c6, c7, c8, ⟨c9.1, fun u u0 u1 => ?_⟩, c10, c11, c12, zCM_w c13 (((zKp_i (by decide)).tr (zKp_i (by decide))).tr (zKp_i (by decide))) rfl rfl rfl rfl, c14⟩
  obtain ⟨p0, p1, p2, p3, p4, p5, p6, p7, p8, p9, p10, p11, p12, p13, p14⟩ := c9.2 u u0 u1
  have f22 : zup (zup (zup s 22 v x) 23 v y) 24 v 0 22 u = zup s 22 v x 22 u := (zup_j (by decide)).trans (zup_j (by decide))
  have f23 : zup (zup (zup s 22 v x) 23 v y) 24 v 0 23 u = zup (zup s 22 v x) 23 v y 23 u := zup_j (by decide)
  by_cases eu : u = v
  · subst eu
    exact ⟨p0, p1, p2, p3, p4, p5, p6, p7, p8, p9, (zi_j (by decide)).trans ((zi_j (by decide)).trans ((zi_j (by decide)).trans p10)), fun _ => (zi_j (by decide)).trans ((zi_j (by decide)).trans (zi_s.trans (congrArg zE (f22.trans zup_s).symm))), (zi_j (by decide)).trans (zi_s.trans (congrArg zE (f23.trans zup_s).symm)), zi_s.trans (congrArg zE zup_s.symm), (zi_j (by decide)).trans ((zi_j (by decide)).trans ((zi_j (by decide)).trans p14))⟩
  · have e2 : u.toNat ≠ v.toNat := by omega
    have g22 : zup (zup (zup s 22 v x) 23 v y) 24 v 0 22 u = s 22 u := f22.trans (zup_a eu)
    have g23 : zup (zup (zup s 22 v x) 23 v y) 24 v 0 23 u = s 23 u := f23.trans ((zup_a eu).trans (zup_j (by decide)))
    have g24 : zup (zup (zup s 22 v x) 23 v y) 24 v 0 24 u = s 24 u := (zup_a eu).trans ((zup_j (by decide)).trans (zup_j (by decide)))
    exact ⟨p0, p1, p2, p3, p4, p5, p6, p7, p8, p9, (zi_i e2).trans ((zi_i e2).trans ((zi_i e2).trans p10)), fun z => (zi_i e2).trans ((zi_i e2).trans ((zi_i e2).trans ((p11 (by rw [g23] at z; exact z)).trans (congrArg zE g22.symm)))), (zi_i e2).trans ((zi_i e2).trans ((zi_i e2).trans (p12.trans (congrArg zE g23.symm)))), (zi_i e2).trans ((zi_i e2).trans ((zi_i e2).trans (p13.trans (congrArg zE g24.symm)))), (zi_i e2).trans ((zi_i e2).trans ((zi_i e2).trans p14))⟩
theorem zan_d : ∀ t, t < 256 → ∀ i, i < 8 → ((Int32.ofInt (t : Nat)) &&& (((1 : Int32) <<< ((Int32.ofInt (i : Nat)) &&& 31)) ^^^ (-1 : Int32))) = Int32.ofInt ((t &&& (255 - 1 <<< i) : Nat) : Int) ∧ (t &&& (255 - 1 <<< i)) < 256 := by decide +kernel
theorem zan_s {t i : Int} (h1 : 0 ≤ t) (h2 : t ≤ 255) (h3 : 0 ≤ i) (h4 : i ≤ 7) : ∃ u, (zE t &&& ((zE 1 <<< (zE i &&& 31)) ^^^ zE (-1))) = zE u ∧ 0 ≤ u ∧ u ≤ 255 := by
  obtain ⟨e1, e2⟩ := zan_d t.toNat (by omega) i.toNat (by omega)
  rw [Int.toNat_of_nonneg h1, Int.toNat_of_nonneg h3, zE_m1] at e1
  exact ⟨_, e1, by omega, by omega⟩
