set_option maxRecDepth 16384
/-! program. -/
theorem zln_n {h : zH} {k n sl : Nat} : zln (znw h k n sl) k (zct h k) = n := if_pos ⟨rfl, rfl⟩
theorem zln_o {h : zH} {k n sl i : Nat} (e : i ≠ zct h k) : zln (znw h k n sl) k i = zln h k i := if_neg fun z => e z.2
theorem znw_r {h : zH} {k n sl i j : Nat} (e : i ≠ zct h k) : zr (znw h k n sl) k i j = zr h k i j := if_neg fun z => e z.2
theorem znw_0 {h : zH} {k n sl j : Nat} : zi (znw h k n sl) k (zct h k) j = 0 := if_pos ⟨rfl, rfl⟩
def zpgA (h : zH) : zH := zsr (znw (znw h 4 0 5) 22 10 10) 4 (zct h 4) 0 (some (22, zct h 22))
def zpgB (h : zH) : zH := zsr (znw (zpgA h) 23 10 10) 4 (zct h 4) 1 (some (23, zct h 23))
def zpgH (h : zH) : zH := zsr (znw (zpgB h) 24 10 10) 4 (zct h 4) 2 (some (24, zct h 24))
theorem zpg_k {h : zH} (P : Nat → Prop) (p1 : ¬ P 4) (p2 : ¬ P 15) (p3 : ¬ P 22) (p4 : ¬ P 23) (p5 : ¬ P 24) : zKp P h (zadx (zpgH h) 15 4 (zct h 4)) := fun k hp => by
  have q1 : k ≠ 4 := fun z => p1 (z ▸ hp)
  have q2 : k ≠ 15 := fun z => p2 (z ▸ hp)
  have q3 : k ≠ 22 := fun z => p3 (z ▸ hp)
  have q4 : k ≠ 23 := fun z => p4 (z ▸ hp)
  have q5 : k ≠ 24 := fun z => p5 (z ▸ hp)
  refine ⟨(if_neg q5).trans ((if_neg q4).trans ((if_neg q3).trans (if_neg q1))), ?_, ?_, ?_, ?_, ?_⟩
  · funext i
    exact (if_neg fun z => q2 z.1).trans ((if_neg fun z => q5 z.1).trans ((if_neg fun z => q4 z.1).trans ((if_neg fun z => q3 z.1).trans (if_neg fun z => q1 z.1))))
  · funext i j
    exact (if_neg fun z => q5 z.1).trans ((if_neg fun z => q4 z.1).trans ((if_neg fun z => q3 z.1).trans (if_neg fun z => q1 z.1)))
  · funext i j
    exact (if_neg fun z => q2 z.1).trans ((if_neg fun z => q1 z.1).trans ((if_neg fun z => q5 z.1).trans ((if_neg fun z => q1 z.1).trans ((if_neg fun z => q4 z.1).trans ((if_neg fun z => q1 z.1).trans ((if_neg fun z => q3 z.1).trans (if_neg fun z => q1 z.1)))))))
  · funext i j
    exact (if_neg fun z => q5 z.1).trans ((if_neg fun z => q4 z.1).trans ((if_neg fun z => q3 z.1).trans (if_neg fun z => q1 z.1)))
  · funext i j
    exact (if_neg fun z => q5 z.1).trans ((if_neg fun z => q4 z.1).trans ((if_neg fun z => q3 z.1).trans (if_neg fun z => q1 z.1)))
theorem zpg_C {h : zH} {s : zS} (hC : zCl h s) (hW : zWf s) (h6 : s 25 0 < 6) : zCl (zadx (zpgH h) 15 4 (zct h 4)) (zup s 25 0 (s 25 0 + 1)) := by
  obtain ⟨wA, wK, wC, wD, wP, wR, wZ, wT, wG, wE, wM, wX⟩ := hW
  have hn := wP.1
  obtain ⟨c1, c2, c3, c4, c5, c6, c7, c8, c9, c10, c11, c12, c13, c14⟩ := hC
  obtain ⟨n1, n2, n3, n4, n5, n6, n7, n8, n9, n10, n11, n12, n13⟩ := c14
  obtain ⟨⟨t0, t1⟩, t2⟩ := c4
  have e25 : zup s 25 0 (s 25 0 + 1) 25 0 = s 25 0 + 1 := zup_s
  refine ⟨c1, c2, c3, ⟨⟨t0, ?_⟩, fun u u0 u1 => ?_⟩, c5, c6, c7, c8, c9, c10, c11, c12, zCM_w c13 (zpg_k _ (by decide) (by decide) (by decide) (by decide) (by decide)) rfl rfl rfl rfl, n1, n2, ?_, ?_, ?_, ?_, n7, n8, n9, n10, n11, n12, n13⟩
  · rw [e25]
    have : zln (zadx (zpgH h) 15 4 (zct h 4)) 15 0 = zln h 15 0 + 1 := zln_s (h := zsr (zpgH h) 15 0 (zln h 15 0) (some (4, zct h 4)))
    omega
  · rw [e25] at u1
    by_cases e : u = s 25 0
    · have eu : u.toNat = zct h 4 := by omega
      have el : u.toNat = zln h 15 0 := by omega
      have e22 : u.toNat = zct h 22 := by omega
      have e23 : u.toNat = zct h 23 := by omega
      have e24 : u.toNat = zct h 24 := by omega
      have s26 : zup s 25 0 (s 25 0 + 1) 26 u = 0 := (wX.2.2.2.2.1 u (by omega) (by omega))
      have h22 : zct h 22 = zct h 4 := by omega
      have h23 : zct h 23 = zct h 4 := by omega
      have h24 : zct h 24 = zct h 4 := by omega
      have hnx : ¬ zxs 0 (s 30 0) fun r => s 32 r = u := fun ⟨r, r0, r1, r2⟩ => by
        have h1 := (wR.2.2 r r0 r1).2.1
        omega
      refine ⟨?_, ?_, ?_, ?_, ?_, ?_, ?_, ?_, ?_, fun x x0 x1 => ?_, fun x x0 x1 => ?_, fun x x0 x1 => ?_⟩
      · show zr (zsr (zpgH h) 15 0 (zln h 15 0) (some (4, zct h 4))) 15 0 u.toNat = _
        rw [el, zr_s, ← el, eu]
      · rw [eu]
        exact (zr_j (by decide)).trans ((zr_j (by decide)).trans (zr_s.trans (by rw [h22])))
      · rw [eu]
        exact (zr_j (by decide)).trans (zr_s.trans (by rw [h23]))
      · rw [eu]
        exact zr_s.trans (by rw [h24])
      · rw [e22]
        exact zln_n (h := znw h 4 0 5) (k := 22) (n := 10) (sl := 10)
      · rw [e23]
        exact zln_n (h := zpgA h) (k := 23) (n := 10) (sl := 10)
      · rw [e24]
        exact zln_n (h := zpgB h) (k := 24) (n := 10) (sl := 10)
      · rw [s26, eu]
        exact (znw_0 (h := h) (k := 4) (n := 0) (sl := 5)).trans zE_0
      · show zi _ 4 u.toNat 4 = zE (zcn1 (zxs 0 (s 30 0) fun r => s 32 r = u))
        rw [zcn1_f hnx, eu]
        exact (znw_0 (h := h) (k := 4) (n := 0) (sl := 5)).trans zE_0
      · rw [s26] at x1; omega
      · rw [s26] at x1; omega
      · rw [s26] at x1; omega
    · obtain ⟨p0, p1, p2, p3, p4, p5, p6, p7, p8, p9, p10, p11⟩ := t2 u u0 (by omega)
      have eu : u.toNat ≠ zct h 4 := by omega
      have el : u.toNat ≠ zln h 15 0 := by omega
      have e22 : u.toNat ≠ zct h 22 := by omega
      have e23 : u.toNat ≠ zct h 23 := by omega
      have e24 : u.toNat ≠ zct h 24 := by omega
      refine ⟨?_, ?_, ?_, ?_, ?_, ?_, ?_, ?_, ?_, fun x x0 x1 => ?_, fun x x0 x1 => ?_, fun x x0 x1 => ?_⟩
      · show zr (zsr (zpgH h) 15 0 (zln h 15 0) (some (4, zct h 4))) 15 0 u.toNat = _
        rw [zr_j el]
        exact p0
      · exact (zr_i eu).trans ((zr_i eu).trans ((zr_i eu).trans ((znw_r (h := h) (n := 0) (sl := 5) eu).trans p1)))
      · exact (zr_i eu).trans ((zr_i eu).trans ((zr_i eu).trans ((znw_r (h := h) (n := 0) (sl := 5) eu).trans p2)))
      · exact (zr_i eu).trans ((zr_i eu).trans ((zr_i eu).trans ((znw_r (h := h) (n := 0) (sl := 5) eu).trans p3)))
      · exact (zln_o (h := znw h 4 0 5) (n := 10) (sl := 10) e22).trans p4
      · exact (zln_o (h := zpgA h) (n := 10) (sl := 10) e23).trans p5
      · exact (zln_o (h := zpgB h) (n := 10) (sl := 10) e24).trans p6
      · exact (znw_i (h := h) (n := 0) (sl := 5) eu).trans p7
      · exact (znw_i (h := h) (n := 0) (sl := 5) eu).trans p8
      · exact (znw_i (h := znw h 4 0 5) (n := 10) (sl := 10) e22).trans (p9 x x0 x1)
      · exact (znw_i (h := zpgA h) (n := 10) (sl := 10) e23).trans (p10 x x0 x1)
      · exact (znw_i (h := zpgB h) (n := 10) (sl := 10) e24).trans (p11 x x0 x1)
  · rw [e25]
    have : zct (zadx (zpgH h) 15 4 (zct h 4)) 4 = zct h 4 + 1 := zct_n (h := h) (k := 4) (n := 0) (sl := 5)
    omega
  · rw [e25]
    have : zct (zadx (zpgH h) 15 4 (zct h 4)) 22 = zct h 22 + 1 := zct_n (h := znw h 4 0 5) (k := 22) (n := 10) (sl := 10)
    omega
  · rw [e25]
    have : zct (zadx (zpgH h) 15 4 (zct h 4)) 23 = zct h 23 + 1 := zct_n (h := zpgA h) (k := 23) (n := 10) (sl := 10)
    omega
  · rw [e25]
    have : zct (zadx (zpgH h) 15 4 (zct h 4)) 24 = zct h 24 + 1 := zct_n (h := zpgB h) (k := 24) (n := 10) (sl := 10)
    omega
