set_option maxRecDepth 16384
/-! zone. -/
def zzon (h : zH) (a b c d : Int) : zH := zsi (zsi (zsi (zsi (znw h 3 0 4) 3 (zct h 3) 0 (zE a)) 3 (zct h 3) 1 (zE b)) 3 (zct h 3) 2 (zE c)) 3 (zct h 3) 3 (zE d)
def zzos (s : zS) (a b c d : Int) : zS := zup (zup (zup (zup (zup s 52 (s 51 0) a) 53 (s 51 0) b) 54 (s 51 0) c) 55 (s 51 0) d) 51 0 (s 51 0 + 1)
theorem zzos_51 {s : zS} {a b c d : Int} : zzos s a b c d 51 0 = s 51 0 + 1 := zup_s
theorem zzos_n {s : zS} {a b c d : Int} : zzos s a b c d 52 (s 51 0) = a ∧ zzos s a b c d 53 (s 51 0) = b ∧ zzos s a b c d 54 (s 51 0) = c ∧ zzos s a b c d 55 (s 51 0) = d :=
  ⟨(zup_j (by decide)).trans ((zup_j (by decide)).trans ((zup_j (by decide)).trans ((zup_j (by decide)).trans zup_s))), (zup_j (by decide)).trans ((zup_j (by decide)).trans ((zup_j (by decide)).trans zup_s)), (zup_j (by decide)).trans ((zup_j (by decide)).trans zup_s), (zup_j (by decide)).trans zup_s⟩
theorem zzos_o {s : zS} {a b c d u : Int} (e : u ≠ s 51 0) : zzos s a b c d 52 u = s 52 u ∧ zzos s a b c d 53 u = s 53 u ∧ zzos s a b c d 54 u = s 54 u ∧ zzos s a b c d 55 u = s 55 u :=
  ⟨(zup_j (by decide)).trans ((zup_j (by decide)).trans ((zup_j (by decide)).trans ((zup_j (by decide)).trans (zup_a e)))), (zup_j (by decide)).trans ((zup_j (by decide)).trans ((zup_j (by decide)).trans ((zup_a e).trans (zup_j (by decide))))), (zup_j (by decide)).trans ((zup_j (by decide)).trans ((zup_a e).trans ((zup_j (by decide)).trans (zup_j (by decide))))), (zup_j (by decide)).trans ((zup_a e).trans ((zup_j (by decide)).trans ((zup_j (by decide)).trans (zup_j (by decide)))))⟩
theorem zzon_k {h : zH} {a b c d : Int} (P : Nat → Prop) (p1 : ¬ P 3) (p2 : ¬ P 17) : zKp P h (zadx (zzon h a b c d) 17 3 (zct h 3)) := fun k hp => by
  have q1 : k ≠ 3 := fun z => p1 (z ▸ hp)
  have q2 : k ≠ 17 := fun z => p2 (z ▸ hp)
  refine ⟨if_neg q1, ?_, ?_, ?_, ?_, ?_⟩
  · funext i
    exact (if_neg fun z => q2 z.1).trans (if_neg fun z => q1 z.1)
  · funext i j
    exact (if_neg fun z => q1 z.1).trans ((if_neg fun z => q1 z.1).trans ((if_neg fun z => q1 z.1).trans ((if_neg fun z => q1 z.1).trans (if_neg fun z => q1 z.1))))
  · funext i j
    exact (if_neg fun z => q2 z.1).trans (if_neg fun z => q1 z.1)
  · funext i j
    exact if_neg fun z => q1 z.1
  · funext i j
    exact if_neg fun z => q1 z.1
theorem zzon_C {h : zH} {s : zS} {a b c d : Int} (hC : zCl h s) : zCl (zadx (zzon h a b c d) 17 3 (zct h 3)) (zzos s a b c d) := by
  obtain ⟨c1, c2, c3, c4, c5, c6, c7, c8, c9, c10, c11, c12, c13, c14⟩ := hC
  obtain ⟨n1, n2, n3, n4, n5, n6, n7, n8, n9, n10, n11, n12, n13⟩ := c14
  obtain ⟨⟨t0, t1⟩, t2⟩ := c6
  refine ⟨c1, c2, c3, c4, c5, ⟨⟨t0, ?_⟩, fun u u0 u1 => ?_⟩, c7, c8, c9, c10, c11, c12, zCM_w c13 (zzon_k _ (by decide) (by decide)) rfl rfl rfl rfl, n1, n2, n3, n4, n5, n6, n7, n8, n9, ?_, n11, n12, n13⟩
  · rw [zzos_51]
    have : zln (zadx (zzon h a b c d) 17 3 (zct h 3)) 17 0 = zln h 17 0 + 1 := zln_s (h := zsr (zzon h a b c d) 17 0 (zln h 17 0) (some (3, zct h 3)))
    omega
  · rw [zzos_51] at u1
    by_cases e : u = s 51 0
    · have eu : u.toNat = zct h 3 := by omega
      have el : u.toNat = zln h 17 0 := by omega
      obtain ⟨f1, f2, f3, f4⟩ := zzos_n (s := s) (a := a) (b := b) (c := c) (d := d)
      rw [← e] at f1 f2 f3 f4
      rw [f1, f2, f3, f4]
      refine ⟨?_, ?_, ?_, ?_, ?_⟩
      · show zr (zsr (zzon h a b c d) 17 0 (zln h 17 0) (some (3, zct h 3))) 17 0 u.toNat = _
        rw [el, zr_s, ← el, eu]
      · show zi (zzon h a b c d) 3 u.toNat 0 = _
        rw [eu]
        exact (zi_j (by decide)).trans ((zi_j (by decide)).trans ((zi_j (by decide)).trans zi_s))
      · show zi (zzon h a b c d) 3 u.toNat 1 = _
        rw [eu]
        exact (zi_j (by decide)).trans ((zi_j (by decide)).trans zi_s)
      · show zi (zzon h a b c d) 3 u.toNat 2 = _
        rw [eu]
        exact (zi_j (by decide)).trans zi_s
      · show zi (zzon h a b c d) 3 u.toNat 3 = _
        rw [eu]
        exact zi_s
    · obtain ⟨p0, p1, p2, p3, p4⟩ := t2 u u0 (by omega)
      have eu : u.toNat ≠ zct h 3 := by omega
      have el : u.toNat ≠ zln h 17 0 := by omega
      obtain ⟨f1, f2, f3, f4⟩ := zzos_o (a := a) (b := b) (c := c) (d := d) e
      rw [f1, f2, f3, f4]
      have hz : ∀ j, zi (zzon h a b c d) 3 u.toNat j = zi h 3 u.toNat j := fun j => (zi_i eu).trans ((zi_i eu).trans ((zi_i eu).trans ((zi_i eu).trans (znw_i eu))))
      refine ⟨?_, (hz 0).trans p1, (hz 1).trans p2, (hz 2).trans p3, (hz 3).trans p4⟩
      show zr (zsr (zzon h a b c d) 17 0 (zln h 17 0) (some (3, zct h 3))) 17 0 u.toNat = _
      rw [zr_j el]
      exact p0
  · rw [zzos_51]
    have : zct (zadx (zzon h a b c d) 17 3 (zct h 3)) 3 = zct h 3 + 1 := zct_n (h := h) (k := 3) (n := 0) (sl := 4)
    omega
