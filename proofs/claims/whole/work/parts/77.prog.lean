set_option maxRecDepth 16384
/-! program. -/
theorem zln_n {h : zH} {k n sl : Nat} : zln (znw h k n sl) k (zct h k) = n := if_pos ⟨rfl, rfl⟩
theorem zln_o {h : zH} {k n sl i : Nat} (e : i ≠ zct h k) : zln (znw h k n sl) k i = zln h k i := if_neg fun z => e z.2
theorem znw_r {h : zH} {k n sl i j : Nat} (e : i ≠ zct h k) : zr (znw h k n sl) k i j = zr h k i j := if_neg fun z => e z.2
theorem znw_0 {h : zH} {k n sl j : Nat} : zi (znw h k n sl) k (zct h k) j = 0 := if_pos ⟨rfl, rfl⟩
def zpgA (h : zH) : zH := zsr (znw (znw h 4 0 5) 22 10 10) 4 (zct h 4) 0 (some (22, zct h 22))
def zpgB (h : zH) : zH := zsr (znw (zpgA h) 23 10 10) 4 (zct h 4) 1 (some (23, zct h 23))
def zpgH (h : zH) : zH := zsr (znw (zpgB h) 24 10 10) 4 (zct h 4) 2 (some (24, zct h 24))
theorem zpg_k {h : zH} (P : Nat → Prop) (p1 : ¬ P 4) (p2 : ¬ P 15) (p3 : ¬ P 22) (p4 : ¬ P 23) (p5 : ¬ P 24) : zKp P h (zadx (zpgH h) 15 4 (zct h 4)) := fun k hp => by
  have q1 : k ≠ 4 := fun z => p1 (z ▸ hp)
  have q2 : k ≠ 15 := fun z => p2 (z ▸ hp)
  have q3 : k ≠ 22 := fun z => p3 (z ▸ hp)
  have q4 : k ≠ 23 := fun z => p4 (z ▸ hp)
  have q5 : k ≠ 24 := fun z => p5 (z ▸ hp)
  refine ⟨(if_neg q5).trans ((if_neg q4).trans ((if_neg q3).trans (if_neg q1))), ?_, ?_, ?_, ?_, ?_⟩
  · funext i
    exact (if_neg fun z => q2 z.1).trans ((if_neg fun z => q5 z.1).trans ((if_neg fun z => q4 z.1).trans ((if_neg fun z => q3 z.1).trans (if_neg fun z => q1 z.1))))
  · funext i j
    exact (if_neg fun z => q5 z.1).trans ((if_neg fun z => q4 z.1).trans ((if_neg fun z => q3 z.1).trans (if_neg fun z => q1 z.1)))
  · funext i j
    exact (if_neg fun z => q2 z.1).trans ((if_neg fun z => q1 z.1).trans ((if_neg fun z => q5 z.1).trans ((if_neg fun z => q1 z.1).trans ((if_neg fun z => q4 z.1).trans ((if_neg fun z => q1 z.1).trans ((if_neg fun z => q3 z.1).trans (if_neg fun z => q1 z.1)))))))
  · funext i j
    exact (if_neg fun z => q5 z.1).trans ((if_neg fun z => q4 z.1).trans ((if_neg fun z => q3 z.1).trans (if_neg fun z => q1 z.1)))
  · funext i j
    exact (if_neg fun z => q5 z.1).trans ((if_neg fun z => q4 z.1).trans ((if_neg fun z => q3 z.1).trans (if_neg fun z => q1 z.1)))
theorem zpg_C {h : zH} {s : zS} (hC : zCl h s) (hW : zWf s) (h6 : s 25 0 < 6) : zCl (zadx (zpgH h) 15 4 (zct h 4)) (zup s 25 0 (s 25 0 + 1)) := by
  obtain ⟨wA, wK, wC, wD, wP, wR, wZ, wT, wG, wE, wM, wX⟩ := hW
  have hn := wP.1
  obtain ⟨c1, c2, c3, c4, c5, c6, c7, c8, c9, c10, c11, c12, c13, c14⟩ := hC
  obtain ⟨n1, n2, n3, n4, n5, n6, n7, n8, n9, n10, n11, n12, n13⟩ := c14
  obtain ⟨⟨t0, t1⟩, t2⟩ := c4
  have e25 : zup s 25 0 (s 25 0 + 1) 25 0 = s 25 0 + 1 := zup_s
  refine ⟨c1, c2, c3, ⟨⟨t0, ?_⟩, fun u u0 u1 => ?_⟩, c5, c6, c7, c8, c9, c10, c11, c12, zCM_w c13 (zpg_k _ (by decide) (by decide) (by decide) (by decide) (by decide)) rfl rfl rfl rfl, n1, n2, ?_, ?_, ?_, ?_, n7, n8, n9, n10, n11, n12, n13⟩
  · rw [e25]
    have : zln (zadx (zpgH h) 15 4 (zct h 4)) 15 0 = zln h 15 0 + 1 := zln_s (h := zsr (zpgH h) 15 0 (zln h 15 0) (some (4, zct h 4)))
    omega
  · rw [e25] at u1
    by_cases e : u = s 25 0
    · have eu : u.toNat = zct h 4 := by omega
      have el : u.toNat = zln h 15 0 := by omega
      have e22 : u.toNat = zct h 22 := by omega
      have e23 : u.toNat = zct h 23 := by omega
      have e24 : u.toNat = zct h 24 := by omega
      have s26 : zup s 25 0 (s 25 0 + 1) 26 u = 0 := (wX.2.2.2.2.1 u (by omega) (by omega))
      have h22 : zct h 22 = zct h 4 := by omega
      have h23 : zct h 23 = zct h 4 := by omega
      have h24 : zct h 24 = zct h 4 := by omega
      have hnx : ¬ zxs 0 (s 30 0) fun r => s 32 r = u := fun ⟨r, r0, r1, r2⟩ => by
        have h1 := (wR.2.2 r r0 r1).2.1
        omega
      refine ⟨?_, ?_, ?_, ?_, ?_, ?_, ?_, ?_, ?_, fun x x0 x1 => ?_, fun x x0 x1 => ?_, fun x x0 x1 => ?_⟩
      · show zr (zsr (zpgH h) 15 0 (zln h 15 0) (some (4, zct h 4))) 15 0 u.toNat = _
        rw [el, zr_s, ← el, eu]
      · rw [eu]
        exact (zr_j (by decide)).trans ((zr_j (by decide)).trans (zr_s.trans (by rw [h22])))
      · rw [eu]
        exact (zr_j (by decide)).trans (zr_s.trans (by rw [h23]))
      · rw [eu]
        exact zr_s.trans (by rw [h24])
      · rw [e22]
        exact zln_n (h := znw h 4 0 5) (k := 22) (n := 10) (sl := 10)
      · rw [e23]
        exact zln_n (h := zpgA h) (k := 23) (n := 10) (sl := 10)
      · rw [e24]
        exact zln_n (h := zpgB h) (k := 24) (n := 10) (sl := 10)
      · rw [s26, eu]
        exact (znw_0 (h := h) (k := 4) (n := 0) (sl := 5)).trans zE_0
      · show zi _ 4 u.toNat 4 = zE (zcn1 (zxs 0 (s 30 0) fun r => s 32 r = u))
        rw [zcn1_f hnx, eu]
        exact (znw_0 (h := h) (k := 4) (n := 0) (sl := 5)).trans zE_0
      · rw [s26] at x1; omega
      · rw [s26] at x1; omega
      · rw [s26] at x1; omega
    · obtain ⟨p0, p1, p2, p3, p4, p5, p6, p7, p8, p9, p10, p11⟩ := t2 u u0 (by omega)
      have eu : u.toNat ≠ zct h 4 := by omega
      have el : u.toNat ≠ zln h 15 0 := by omega
      have e22 : u.toNat ≠ zct h 22 := by omega
      have e23 : u.toNat ≠ zct h 23 := by omega
      have e24 : u.toNat ≠ zct h 24 := by omega
      refine ⟨?_, ?_, ?_, ?_, ?_, ?_, ?_, ?_, ?_, fun x x0 x1 => ?_, fun x x0 x1 => ?_, fun x x0 x1 => ?_⟩
      · show zr (zsr (zpgH h) 15 0 (zln h 15 0) (some (4, zct h 4))) 15 0 u.toNat = _
        rw [zr_j el]
        exact p0
      · exact (zr_i eu).trans ((zr_i eu).trans ((zr_i eu).trans ((znw_r (h := h) (n := 0) (sl := 5) eu).trans p1)))
      · exact (zr_i eu).trans ((zr_i eu).trans ((zr_i eu).trans ((znw_r (h := h) (n := 0) (sl := 5) eu).trans p2)))
      · exact (zr_i eu).trans ((zr_i eu).trans ((zr_i eu).trans ((znw_r (h := h) (n := 0) (sl := 5) eu).trans p3)))
      · exact (zln_o (h := znw h 4 0 5) (n := 10) (sl := 10) e22).trans p4
      · exact (zln_o (h := zpgA h) (n := 10) (sl := 10) e23).trans p5
      · exact (zln_o (h := zpgB h) (n := 10) (sl := 10) e24).trans p6
      · exact (znw_i (h := h) (n := 0) (sl := 5) eu).trans p7
      · exact (znw_i (h := h) (n := 0) (sl := 5) eu).trans p8
      · exact (znw_i (h := znw h 4 0 5) (n := 10) (sl := 10) e22).trans (p9 x x0 x1)
      · exact (znw_i (h := zpgA h) (n := 10) (sl := 10) e23).trans (p10 x x0 x1)
      · exact (znw_i (h := zpgB h) (n := 10) (sl := 10) e24).trans (p11 x x0 x1)
  · rw [e25]
    have : zct (zadx (zpgH h) 15 4 (zct h 4)) 4 = zct h 4 + 1 := zct_n (h := h) (k := 4) (n := 0) (sl := 5)
    omega
  · rw [e25]
    have : zct (zadx (zpgH h) 15 4 (zct h 4)) 22 = zct h 22 + 1 := zct_n (h := znw h 4 0 5) (k := 22) (n := 10) (sl := 10)
    omega
  · rw [e25]
    have : zct (zadx (zpgH h) 15 4 (zct h 4)) 23 = zct h 23 + 1 := zct_n (h := zpgA h) (k := 23) (n := 10) (sl := 10)
    omega
  · rw [e25]
    have : zct (zadx (zpgH h) 15 4 (zct h 4)) 24 = zct h 24 + 1 := zct_n (h := zpgB h) (k := 24) (n := 10) (sl := 10)
    omega
theorem zp154_x {h : zH} : zm154_8 (some (13, 0)) (some (13, 0)) (zE 1) h = some (.inl (zE 0), zsi h 13 0 0 (zE 1)) := by
  rw [zm154_8, zM_ob, zlet_s, zM_ob, if_neg, zE_0]
  rw [zi_s]
  decide
theorem zr_program : zPrI (fun h => zm49 (some (12, 0)) h) (fun h => zm154 (some (13, 0)) h) (fun _ => 1) 1 := by
  intro h s hC hM hW
  have z1 : ¬ zE 1 = zE 0 := by decide
  have cr := hC.1
  have cP := hC.2.2.2.1
  have cN := hC.2.2.2.2.2.2.2.2.2.2.2.2.2
  have hW0 := hW
  obtain ⟨wA, wK, wC, wD, wP, wR, wZ, wT, wG, wE, wM, wX⟩ := hW
  have hn := wP.1
  by_cases c6 : s 25 0 = 6
  · refine zexI (t := 1) hC hW0 (by omega) (by omega) ?_ (fun h' hM' => ?_)
    · simp (discharger := omega) only [zm49, ↓zo_12, ↓zLPz cr cP, c6, zE_0, zE_1, zE_2, zE_3, zE_4, zE_5, zE_6, zE_7, zE_8, zE_9, zE_10, zE_11, zE_12, zE_13, zE_14, zE_neg, zE_lt, Int.lt_irrefl, if_false]
    · show zm154 (some (13, 0)) h' = _
      simp (discharger := omega) only [zm154, ↓zM_ob, zMs25 hM', c6, zE_0, zE_1, zE_2, zE_3, zE_4, zE_5, zE_6, zE_7, zE_8, zE_9, zE_10, zE_11, zE_12, zE_13, zE_14, zE_neg, if_true]
      exact zp154_x
  · have c5 : s 25 0 < 6 := by omega
    have hC' := zpg_C hC hW0 c5
    have hl := cP.1.2
    have hq := cN.2.2.1
    obtain ⟨cc, nn, hc1, hn1, he⟩ := zladd_e (h := zpgH h) (k := 15) (k2 := 4) (i2 := zct h 4) (show zln h 15 0 < 33 by omega)
    have hC2 : zCl (zladd (zpgH h) 15 0 4 (zct h 4)) (zup s 25 0 (s 25 0 + 1)) := by
      rw [he]
      exact hC'.kp zKp_o
    have hK2 : zKp (fun k => ¬ zpc1 k) h (zladd (zpgH h) 15 0 4 (zct h 4)) := by
      rw [he]
      exact zKp.tr (zpg_k _ (fun z => z (by unfold zpc1; decide)) (fun z => z (by unfold zpc1; decide)) (fun z => z (by unfold zpc1; decide)) (fun z => z (by unfold zpc1; decide)) (fun z => z (by unfold zpc1; decide))) zKp_o
    have e25 : zup s 25 0 (s 25 0 + 1) 25 0 = s 25 0 + 1 := zup_s
    have s26 : s 26 (s 25 0) = 0 := wX.2.2.2.2.1 _ (Int.le_refl _) (by omega)
    have hW' : zWf (zup s 25 0 (s 25 0 + 1)) := by
      refine ⟨wA, wK, wC, wD, ⟨?_, fun u u0 u1 => ?_, wP.2.2.1, fun u x u0 u1 x0 x1 => ?_⟩, ⟨wR.1, wR.2.1, fun r r0 r1 => ?_⟩, wZ, wT, wG, wE, wM, wX.1, wX.2.1, wX.2.2.1, wX.2.2.2.1, fun u u0 u1 => ?_, wX.2.2.2.2.2⟩
      · rw [e25]; omega
      · rw [e25] at u1
        show 0 ≤ s 26 u ∧ s 26 u ≤ 10
        by_cases e : u = s 25 0
        · rw [e, s26]; omega
        · exact wP.2.1 u u0 (by omega)
      · rw [e25] at u1
        have x2 : x < s 26 u := x1
        by_cases e : u = s 25 0
        · rw [e, s26] at x2; omega
        · exact wP.2.2.2 u x u0 (by omega) x0 x1
      · obtain ⟨q1, q2, q3⟩ := wR.2.2 r r0 r1
        refine ⟨q1, ⟨q2.1, ?_⟩, q3⟩
        rw [e25]
        show s 32 r < s 25 0 + 1
        omega
      · rw [e25] at u0
        exact wX.2.2.2.2.1 u (by omega) u1
    refine zokI (v := s 25 0) (by omega) hW' (h1 := zladd (zpgH h) 15 0 4 (zct h 4)) ?_ hC2 hK2 ?_ ?_ (fun h' hM' => ?_)
    · have g1 : zelB (zpgH h) 15 0 = true := zel_t 4 ⟨rfl, rfl⟩ fun j hj => by
        have := (cP.2 (j : Int) (by omega) (by have : j < zln h 15 0 := hj; omega)).1
        exact this
      have g2 : zi (zpgH h) 15 0 1 = 1 := cP.1.1
      have g3 : zln (zpgH h) 15 0 < 33 := show zln h 15 0 < 33 by omega
      have g0 : ¬ ((10 : Int32) < 0 ∨ 100000 < (10 : Int32).toNatClampNeg) := by decide
      have g4 : (zm7 (some (4, zct h 4)) (znw h 4 0 5)) = some (.inl (), zpgH h) := by
        rw [zm7, znn_s, if_neg g0, zlet_s, zo_4, zlet_s, if_neg g0, zlet_s, zlet_s, if_neg g0, zlet_s, zlet_s]
        rfl
      show zm49 (some (12, 0)) h = _
      rw [zm49, zo_12, zLPz cr cP, if_pos (by rw [zE_6, zE_lt (by omega) (by omega) (by omega) (by omega)]; exact c5)]
      rw [zlet_s, zo_4, g4, zb2_s, zCr1 cr, znn_s, znn_s, zif_s (by rw [g1]; rfl), zif_s ⟨g2, g3⟩, zlet_s, zLPz hC2.1 hC2.2.2.2.1, zup_s, zE_1, zE_sub]
      congr 4
      omega
    · rw [he]
      show zce h + 1 + 1 + 1 + 1 + cc ≤ _
      omega
    · rw [he]
      show zso h + 5 + 10 + 10 + 10 + nn ≤ _
      omega
    · have hM1 := hM'.ws 0 (by decide) 0
      have hM2 := hM1.ws 25 (by decide) (s 25 0 + 1)
      refine ⟨zup (zup s 0 0 0) 25 0 (s 25 0 + 1), zsc_c zsc_up, (zup_j (by decide)).trans zup_s, _, ?_, hM2, (zKp_i (fun z => z (Or.inl rfl))).tr (zKp_i (fun z => z (Or.inl rfl))), rfl, rfl⟩
      show zm154 (some (13, 0)) h' = _
      have e1 : zup s 0 0 0 25 0 = s 25 0 := rfl
      simp (discharger := omega) only [zm154, zm154_8, ↓zM_ob, zMs25 hM', zE_0, zE_1, zE_2, zE_3, zE_4, zE_5, zE_6, zE_7, zE_8, zE_9, zE_10, zE_11, zE_12, zE_13, zE_14, zE_neg, zE_inj, c6, if_false, ↓zlet_s, zMs0 hM1, zup_s, Int32.le_refl, if_true, zMs25 hM1, e1, zE_add, zMs25 hM2, zE_sub]
      congr 4
      omega
