set_option maxRecDepth 16384
/-! experiment: the list's new row. -/
def zxpH (h : zH) (a b c d g : Int) : zH := zsi (zsi (zsi (zsi (zsi (znw h 1 0 6) 1 (zct h 1) 0 (zE a)) 1 (zct h 1) 1 (zE b)) 1 (zct h 1) 2 (zE c)) 1 (zct h 1) 3 (zE d)) 1 (zct h 1) 4 (zE g)
def zxpS (s : zS) (a b c d g : Int) : zS := zup (zup (zup (zup (zup (zup s 72 (s 71 0) a) 73 (s 71 0) b) 74 (s 71 0) c) 75 (s 71 0) d) 76 (s 71 0) g) 71 0 (s 71 0 + 1)
theorem zxpS_71 {s : zS} {a b c d g : Int} : zxpS s a b c d g 71 0 = s 71 0 + 1 := zup_s
theorem zxpS_n {s : zS} {a b c d g : Int} : zxpS s a b c d g 72 (s 71 0) = a ∧ zxpS s a b c d g 73 (s 71 0) = b ∧ zxpS s a b c d g 74 (s 71 0) = c ∧ zxpS s a b c d g 75 (s 71 0) = d ∧ zxpS s a b c d g 76 (s 71 0) = g :=
  ⟨(zup_j (by decide)).trans ((zup_j (by decide)).trans ((zup_j (by decide)).trans ((zup_j (by decide)).trans ((zup_j (by decide)).trans zup_s)))), (zup_j (by decide)).trans ((zup_j (by decide)).trans ((zup_j (by decide)).trans ((zup_j (by decide)).trans zup_s))), (zup_j (by decide)).trans ((zup_j (by decide)).trans ((zup_j (by decide)).trans zup_s)), (zup_j (by decide)).trans ((zup_j (by decide)).trans zup_s), (zup_j (by decide)).trans zup_s⟩
theorem zxpS_o {s : zS} {a b c d g u : Int} (e : u ≠ s 71 0) : zxpS s a b c d g 72 u = s 72 u ∧ zxpS s a b c d g 73 u = s 73 u ∧ zxpS s a b c d g 74 u = s 74 u ∧ zxpS s a b c d g 75 u = s 75 u ∧ zxpS s a b c d g 76 u = s 76 u := by
  refine ⟨?_, ?_, ?_, ?_, ?_⟩
  · show zup s 72 (s 71 0) a 72 u = s 72 u
    exact zup_a e
  · show zup s 73 (s 71 0) b 73 u = s 73 u
    exact zup_a e
  · show zup s 74 (s 71 0) c 74 u = s 74 u
    exact zup_a e
  · show zup s 75 (s 71 0) d 75 u = s 75 u
    exact zup_a e
  · show zup s 76 (s 71 0) g 76 u = s 76 u
    exact zup_a e
theorem zxpH_k {h : zH} {a b c d g : Int} (P : Nat → Prop) (p1 : ¬ P 1) (p2 : ¬ P 19) : zKp P h (zadx (zxpH h a b c d g) 19 1 (zct h 1)) := fun k hp => by
  have q1 : k ≠ 1 := fun z => p1 (z ▸ hp)
  have q2 : k ≠ 19 := fun z => p2 (z ▸ hp)
  refine ⟨if_neg q1, ?_, ?_, ?_, ?_, ?_⟩
  · funext i
    exact (if_neg fun z => q2 z.1).trans (if_neg fun z => q1 z.1)
  · funext i j
    exact (if_neg fun z => q1 z.1).trans ((if_neg fun z => q1 z.1).trans ((if_neg fun z => q1 z.1).trans ((if_neg fun z => q1 z.1).trans ((if_neg fun z => q1 z.1).trans (if_neg fun z => q1 z.1)))))
  · funext i j
    exact (if_neg fun z => q2 z.1).trans (if_neg fun z => q1 z.1)
  · funext i j
    exact if_neg fun z => q1 z.1
  · funext i j
    exact if_neg fun z => q1 z.1
theorem zxpH_C {h : zH} {s : zS} {a b c d g : Int} (hC : zCl h s) (hW : zWf s) (h8 : s 71 0 < 8) : zCl (zadx (zxpH h a b c d g) 19 1 (zct h 1)) (zxpS s a b c d g) := by
  obtain ⟨wA, wK, wC, wD, wP, wR, wZ, wT, wG, wE, wM, wX⟩ := hW
  have hn := wE.1
  obtain ⟨c1, c2, c3, c4, c5, c6, c7, c8, c9, c10, c11, c12, c13, c14⟩ := hC
  obtain ⟨n1, n2, n3, n4, n5, n6, n7, n8, n9, n10, n11, n12, n13⟩ := c14
  obtain ⟨⟨t0, t1⟩, t2⟩ := c8
  refine ⟨c1, c2, c3, c4, c5, c6, c7, ⟨⟨t0, ?_⟩, fun u u0 u1 => ?_⟩, c9, c10, c11, c12, zCM_w c13 (zxpH_k _ (by decide) (by decide)) rfl rfl rfl rfl, n1, n2, n3, n4, n5, n6, n7, n8, n9, n10, n11, ?_, n13⟩
  · rw [zxpS_71]
    have : zln (zadx (zxpH h a b c d g) 19 1 (zct h 1)) 19 0 = zln h 19 0 + 1 := zln_s (h := zsr (zxpH h a b c d g) 19 0 (zln h 19 0) (some (1, zct h 1)))
    omega
  · rw [zxpS_71] at u1
    by_cases e : u = s 71 0
    · have eu : u.toNat = zct h 1 := by omega
      have el : u.toNat = zln h 19 0 := by omega
      have s77 : zxpS s a b c d g 77 u = 0 := wX.2.2.2.2.2.2.1 u (by omega) (by omega)
      obtain ⟨f1, f2, f3, f4, f5⟩ := zxpS_n (s := s) (a := a) (b := b) (c := c) (d := d) (g := g)
      rw [← e] at f1 f2 f3 f4 f5
      rw [f1, f2, f3, f4, f5, s77]
      refine ⟨?_, ?_, ?_, ?_, ?_, ?_, ?_⟩
      · show zr (zsr (zxpH h a b c d g) 19 0 (zln h 19 0) (some (1, zct h 1))) 19 0 u.toNat = _
        rw [el, zr_s, ← el, eu]
      · show zi (zxpH h a b c d g) 1 u.toNat 0 = _
        rw [eu]
        exact (zi_j (by decide)).trans ((zi_j (by decide)).trans ((zi_j (by decide)).trans ((zi_j (by decide)).trans zi_s)))
      · show zi (zxpH h a b c d g) 1 u.toNat 1 = _
        rw [eu]
        exact (zi_j (by decide)).trans ((zi_j (by decide)).trans ((zi_j (by decide)).trans zi_s))
      · show zi (zxpH h a b c d g) 1 u.toNat 2 = _
        rw [eu]
        exact (zi_j (by decide)).trans ((zi_j (by decide)).trans zi_s)
      · show zi (zxpH h a b c d g) 1 u.toNat 3 = _
        rw [eu]
        exact (zi_j (by decide)).trans zi_s
      · show zi (zxpH h a b c d g) 1 u.toNat 4 = _
        rw [eu]
        exact zi_s
      · show zi (zxpH h a b c d g) 1 u.toNat 5 = _
        rw [eu]
        exact (zi_j (by decide)).trans ((zi_j (by decide)).trans ((zi_j (by decide)).trans ((zi_j (by decide)).trans ((zi_j (by decide)).trans ((znw_0 (h := h) (k := 1) (n := 0) (sl := 6)).trans zE_0)))))
    · obtain ⟨p0, p1, p2, p3, p4, p5, p6⟩ := t2 u u0 (by omega)
      have eu : u.toNat ≠ zct h 1 := by omega
      have el : u.toNat ≠ zln h 19 0 := by omega
      obtain ⟨f1, f2, f3, f4, f5⟩ := zxpS_o (a := a) (b := b) (c := c) (d := d) (g := g) e
      rw [f1, f2, f3, f4, f5]
      have hz : ∀ j, zi (zxpH h a b c d g) 1 u.toNat j = zi h 1 u.toNat j := fun j => (zi_i eu).trans ((zi_i eu).trans ((zi_i eu).trans ((zi_i eu).trans ((zi_i eu).trans (znw_i eu)))))
      refine ⟨?_, (hz 0).trans p1, (hz 1).trans p2, (hz 2).trans p3, (hz 3).trans p4, (hz 4).trans p5, (hz 5).trans p6⟩
      show zr (zsr (zxpH h a b c d g) 19 0 (zln h 19 0) (some (1, zct h 1))) 19 0 u.toNat = _
      rw [zr_j el]
      exact p0
  · rw [zxpS_71]
    have : zct (zadx (zxpH h a b c d g) 19 1 (zct h 1)) 1 = zct h 1 + 1 := zct_n (h := h) (k := 1) (n := 0) (sl := 6)
    omega

