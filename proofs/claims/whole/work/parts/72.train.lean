set_option maxRecDepth 16384
/-! One more in a list; train. -/
/-- the list's new end, without what it costs -/
def zadx (h : zH) (k k2 i2 : Nat) : zH := zsn (zsr h k 0 (zln h k 0) (some (k2, i2))) k 0 (zln h k 0 + 1)
theorem zladd_e {h : zH} {k k2 i2 : Nat} (hn : zln h k 0 < 33) : ∃ c n, c ≤ 1 ∧ n ≤ 33 ∧ zladd h k 0 k2 i2 = zro (zadx h k k2 i2) c n := by
  have hz : zcap (zln h k 0 + 1) ≤ 33 := by
    unfold zcap
    repeat' split
    all_goals omega
  unfold zladd
  split
  · exact ⟨1, _, Nat.le_refl _, hz, rfl⟩
  · exact ⟨0, 0, by omega, by omega, rfl⟩
theorem zel_t {h : zH} {k : Nat} (K : Nat) (hk : ztg K = 0 ∧ zkc K = zel k) (hr : ∀ j, j < zln h k 0 → zr h k 0 j = some (K, j)) : zelB h k 0 = true := by
  unfold zelB
  rw [List.all_eq_true]
  intro j hj
  rw [hr j (List.mem_range.mp hj)]
  show (ztg K == 0 && zkc K == zel k) = true
  rw [hk.1, hk.2]
  simp only [BEq.rfl, Bool.and_self]
theorem zr_s {h : zH} {k i j : Nat} {v : zq} : zr (zsr h k i j v) k i j = v := if_pos ⟨rfl, rfl, rfl⟩
theorem zr_j {h : zH} {k i j i' j' : Nat} {v : zq} (e : j' ≠ j) : zr (zsr h k i j v) k i' j' = zr h k i' j' := if_neg fun z => e z.2.2
theorem znw_i {h : zH} {k n sl i j : Nat} (e : i ≠ zct h k) : zi (znw h k n sl) k i j = zi h k i j := if_neg fun z => e z.2
theorem zln_s {h : zH} {k i n : Nat} : zln (zsn h k i n) k i = n := if_pos ⟨rfl, rfl⟩
theorem zct_n {h : zH} {k n sl : Nat} : zct (znw h k n sl) k = zct h k + 1 := if_pos rfl
/-- a new train -/
def ztrn (h : zH) (x : Int) : zH := zsi (zsi (znw h 11 0 2) 11 (zct h 11) 1 (zE (-1))) 11 (zct h 11) 0 (zE x)
theorem ztrn_C {h : zH} {s : zS} {x : Int} (hC : zCl h s) : zCl (zadx (ztrn h x) 18 11 (zct h 11)) (zup (zup (zup s 59 (s 58 0) x) 60 (s 58 0) (-1)) 58 0 (s 58 0 + 1)) := by
  obtain ⟨c1, c2, c3, c4, c5, c6, c7, c8, c9, c10, c11, c12, c13, c14⟩ := hC
  obtain ⟨n1, n2, n3, n4, n5, n6, n7, n8, n9, n10, n11, n12, n13⟩ := c14
  obtain ⟨⟨t0, t1⟩, t2⟩ := c7
  have hk : ∀ P : Nat → Prop, ¬ P 11 → ¬ P 18 → zKp P h (zadx (ztrn h x) 18 11 (zct h 11)) := fun P p1 p2 k hp => by
    have q1 : k ≠ 11 := fun z => p1 (z ▸ hp)
    have q2 : k ≠ 18 := fun z => p2 (z ▸ hp)
    refine ⟨if_neg q1, ?_, ?_, ?_, ?_, ?_⟩
    · funext i
      exact (if_neg fun z => q2 z.1).trans (if_neg fun z => q1 z.1)
    · funext i j
      exact (if_neg fun z => q1 z.1).trans ((if_neg fun z => q1 z.1).trans (if_neg fun z => q1 z.1))
    · funext i j
      exact (if_neg fun z => q2 z.1).trans (if_neg fun z => q1 z.1)
    · funext i j
      exact if_neg fun z => q1 z.1
    · funext i j
      exact if_neg fun z => q1 z.1
  have e58 : zup (zup (zup s 59 (s 58 0) x) 60 (s 58 0) (-1)) 58 0 (s 58 0 + 1) 58 0 = s 58 0 + 1 := zup_s
  refine ⟨c1, c2, c3, c4, c5, c6, ⟨⟨t0, ?_⟩, fun u u0 u1 => ?_⟩, c8, c9, c10, c11, c12, zCM_w c13 (hk _ (by decide) (by decide)) rfl rfl rfl rfl, n1, n2, n3, n4, n5, n6, n7, n8, n9, n10, ?_, n12, n13⟩
  · rw [e58]
    have : zln (zadx (ztrn h x) 18 11 (zct h 11)) 18 0 = zln h 18 0 + 1 := zln_s (h := zsr (ztrn h x) 18 0 (zln h 18 0) (some (11, zct h 11)))
    omega
  · rw [e58] at u1
    have f59 : zup (zup (zup s 59 (s 58 0) x) 60 (s 58 0) (-1)) 58 0 (s 58 0 + 1) 59 u = zup s 59 (s 58 0) x 59 u := (zup_j (by decide)).trans (zup_j (by decide))
    have f60 : zup (zup (zup s 59 (s 58 0) x) 60 (s 58 0) (-1)) 58 0 (s 58 0 + 1) 60 u = zup (zup s 59 (s 58 0) x) 60 (s 58 0) (-1) 60 u := zup_j (by decide)
    rw [f59, f60]
    by_cases e : u = s 58 0
    · have eu : u.toNat = zct h 11 := by omega
      have el : u.toNat = zln h 18 0 := by omega
      rw [e, zup_s, zup_s, ← e]
      refine ⟨?_, ?_, ?_⟩
      · show zr (zsr (ztrn h x) 18 0 (zln h 18 0) (some (11, zct h 11))) 18 0 u.toNat = _
        rw [el, zr_s, ← el, eu]
      · show zi (ztrn h x) 11 u.toNat 0 = _
        rw [eu]
        exact zi_s
      · show zi (ztrn h x) 11 u.toNat 1 = _
        rw [eu]
        exact (zi_j (by decide)).trans zi_s
    · obtain ⟨p0, p1, p2⟩ := t2 u u0 (by omega)
      have eu : u.toNat ≠ zct h 11 := by omega
      have el : u.toNat ≠ zln h 18 0 := by omega
      rw [zup_a e, zup_a e, zup_j (by decide)]
      refine ⟨?_, ?_, ?_⟩
      · show zr (zsr (ztrn h x) 18 0 (zln h 18 0) (some (11, zct h 11))) 18 0 u.toNat = _
        rw [zr_j el]
        exact p0
      · show zi (ztrn h x) 11 u.toNat 0 = _
        exact (zi_i eu).trans ((zi_i eu).trans ((znw_i eu).trans p1))
      · show zi (ztrn h x) 11 u.toNat 1 = _
        exact (zi_i eu).trans ((zi_i eu).trans ((znw_i eu).trans p2))
  · rw [e58]
    have : zct (zadx (ztrn h x) 18 11 (zct h 11)) 11 = zct h 11 + 1 := zct_n (h := h) (k := 11) (n := 0) (sl := 2)
    omega
theorem zr_train (x : Int32) : zPrI (fun h => zm112 (some (12, 0)) x h) (fun h => zm225 (some (13, 0)) x h) (fun t => if t = 1 then 0 else 1) 2 := by
  intro h s hC hM hW
  obtain ⟨a, rfl, a1, a2⟩ := zE_ex x
  have z1 : ¬ zE 1 = zE 0 := by decide
  have z2 : ¬ zE 1 ≤ zE 0 := by decide
  have z3 : ¬ zE 2 ≤ zE 0 := by decide
  have cr := hC.1
  have cs := hC.2.1
  have cT := hC.2.2.2.2.2.2.1
  have cN := hC.2.2.2.2.2.2.2.2.2.2.2.2.2
  have hW0 := hW
  obtain ⟨wA, wK, wC, wD, wP, wR, wZ, wT, wG, wE, wM, wX⟩ := hW
  have ht := wD.1
  have hn := wT.1
  by_cases c : s 1 0 < a ∧ a ≤ 20000
  · have c1 : ¬ a ≤ s 1 0 := by omega
    have m1 : ∀ h', zm139 (zE a) (zE (s 1 0 + 1)) (zE 20000) h' = some (.inl (zE 1), h') := fun h' => by
      obtain ⟨p, p1, p2⟩ := zp139i (h := h') (x := a) (lo := s 1 0 + 1) (hi := 20000) a1 a2 (by omega) (by omega) (by omega) (by omega)
      rwa [p1.u (zbo_1 (by omega))] at p2
    by_cases c6 : s 58 0 = 6
    · refine zexI (t := 2) hC hW0 (by omega) (by omega) ?_ (fun h' hM' => ?_)
      · simp (discharger := omega) only [zm112, ↓zo_12, zCs11 cs, zE_le, c1, if_false, zE_20000, c.2, if_true, ↓zLTz cr cT, c6, zE_0, zE_1, zE_2, zE_3, zE_4, zE_5, zE_6, zE_7, zE_8, zE_9, zE_10, zE_11, zE_12, zE_13, zE_14, zE_neg, zE_lt, Int.lt_irrefl]
        rfl
      · have hM1 := hM'.ws 0 (by decide) 2
        simp (discharger := omega) only [zm225, zm225_18, ↓zM_ob, zMs1 hM', zE_0, zE_1, zE_2, zE_3, zE_4, zE_5, zE_6, zE_7, zE_8, zE_9, zE_10, zE_11, zE_12, zE_13, zE_14, zE_neg, zE_add, zE_20000, m1, ↓zb_s, z1, if_false, zMs58 hM', c6, if_true, ↓zlet_s, zMs0 hM1, zup_s, z3]
    · have c5 : s 58 0 < 6 := by omega
      have hC' := ztrn_C (x := a) hC
      have hl := cT.1.2
      have hq := cN.2.2.2.2.2.2.2.2.2.2.1
      obtain ⟨cc, nn, hc1, hn1, he⟩ := zladd_e (h := ztrn h a) (k := 18) (k2 := 11) (i2 := zct h 11) (show zln h 18 0 < 33 by omega)
      have hC2 : zCl (zladd (ztrn h a) 18 0 11 (zct h 11)) (zup (zup (zup s 59 (s 58 0) a) 60 (s 58 0) (-1)) 58 0 (s 58 0 + 1)) := by
        rw [he]
        exact hC'.kp zKp_o
      have hK2 : zKp (fun k => ¬ zpc1 k) h (zladd (ztrn h a) 18 0 11 (zct h 11)) := by
        rw [he]
        refine zKp.tr (fun k hp => ?_) zKp_o
        have q1 : k ≠ 11 := fun z => hp (by subst z; unfold zpc1; decide)
        have q2 : k ≠ 18 := fun z => hp (by subst z; unfold zpc1; decide)
        refine ⟨if_neg q1, ?_, ?_, ?_, ?_, ?_⟩
        · funext i
          exact (if_neg fun z => q2 z.1).trans (if_neg fun z => q1 z.1)
        · funext i j
          exact (if_neg fun z => q1 z.1).trans ((if_neg fun z => q1 z.1).trans (if_neg fun z => q1 z.1))
        · funext i j
          exact (if_neg fun z => q2 z.1).trans (if_neg fun z => q1 z.1)
        · funext i j
          exact if_neg fun z => q1 z.1
        · funext i j
          exact if_neg fun z => q1 z.1
      have hW' : zWf (zup (zup (zup s 59 (s 58 0) a) 60 (s 58 0) (-1)) 58 0 (s 58 0 + 1)) := by
        have e58 : zup (zup (zup s 59 (s 58 0) a) 60 (s 58 0) (-1)) 58 0 (s 58 0 + 1) 58 0 = s 58 0 + 1 := zup_s
        refine ⟨wA, wK, wC, wD, wP, ⟨wR.1, wR.2.1, fun r r0 r1 => ?_⟩, wZ, ⟨?_, fun u u0 u1 => ?_⟩, wG, wE, wM, wX⟩
        · obtain ⟨q1, q2, q3, q4, q5, q6, q7, q8, q9, q10, q11⟩ := wR.2.2 r r0 r1
          refine ⟨q1, q2, q3, q4, q5, q6, q7, q8, q9, ⟨q10.1, ?_⟩, q11⟩
          rw [e58]
          show s 40 r < s 58 0 + 1
          omega
        · rw [e58]; omega
        · rw [e58] at u1
          have f59 : zup (zup (zup s 59 (s 58 0) a) 60 (s 58 0) (-1)) 58 0 (s 58 0 + 1) 59 u = zup s 59 (s 58 0) a 59 u := (zup_j (by decide)).trans (zup_j (by decide))
          have f60 : zup (zup (zup s 59 (s 58 0) a) 60 (s 58 0) (-1)) 58 0 (s 58 0 + 1) 60 u = zup (zup s 59 (s 58 0) a) 60 (s 58 0) (-1) 60 u := zup_j (by decide)
          rw [f59, f60]
          by_cases e : u = s 58 0
          · rw [e, zup_s, zup_s]; omega
          · rw [zup_a e, zup_a e, zup_j (by decide)]; exact wT.2 u u0 (by omega)
      refine zokI (v := s 58 0) (by omega) hW' (h1 := zladd (ztrn h a) 18 0 11 (zct h 11)) ?_ hC2 hK2 ?_ ?_ (fun h' hM' => ?_)
      · have g1 : zelB (ztrn h a) 18 0 = true := zel_t 11 ⟨rfl, rfl⟩ fun j hj => by
          have := (cT.2 (j : Int) (by omega) (by have : j < zln h 18 0 := hj; omega)).1
          exact this
        have g2 : zi (ztrn h a) 18 0 1 = 1 := cT.1.1
        have g3 : zln (ztrn h a) 18 0 < 33 := show zln h 18 0 < 33 by omega
        have g4 : (zm38 (some (11, zct h 11)) (zE a) (znw h 11 0 2)) = some (.inl (), ztrn h a) := by
          rw [zm38, znn_s, zo_11, zlet_s, zlet_s, zE_m1]
          rfl
        simp (discharger := omega) only [zm112, ↓zo_12, zCs11 cs, zE_le, c1, if_false, zE_20000, c.2, if_true, ↓zLTz cr cT, zE_0, zE_1, zE_2, zE_3, zE_4, zE_5, zE_6, zE_7, zE_8, zE_9, zE_10, zE_11, zE_12, zE_13, zE_14, zE_neg, zE_lt, c5]
        rw [zlet_s, zo_11, g4, zb2_s, zCr4 cr, znn_s, znn_s, zif_s (by rw [g1]; rfl), zif_s ⟨by rw [g2, zE_1], g3⟩, zlet_s, zLTz hC2.1 hC2.2.2.2.2.2.2.1, zup_s, zE_sub]
        congr 4
        omega
      · rw [he]
        show zce h + 1 + cc ≤ _
        omega
      · rw [he]
        show zso h + 2 + nn ≤ _
        omega
      · have hM1 := hM'.ws 0 (by decide) 0
        have hM2 := hM1.wa (59, 159, 6) (by decide) (s 58 0) a (by omega)
        have hM3 := hM2.wa (60, 160, 6) (by decide) (s 58 0) (-1) (by omega)
        have hM4 := hM3.ws 58 (by decide) (s 58 0 + 1)
        refine ⟨_, zsc_c (zsc_c (zsc_c zsc_up)), ((zup_j (by decide)).trans ((zup_j (by decide)).trans ((zup_j (by decide)).trans zup_s))), _, ?_, hM4, (((zKp_i (fun z => z (Or.inl rfl))).tr (zKp_i (fun z => z (Or.inr (by decide))))).tr (zKp_i (fun z => z (Or.inr (by decide))))).tr (zKp_i (fun z => z (Or.inl rfl))), rfl, rfl⟩
        show zm225 (some (13, 0)) (zE a) h' = _
        have e1 : zup s 0 0 0 58 0 = s 58 0 := rfl
        have e2 : zup (zup s 0 0 0) 59 (s 58 0) a 58 0 = s 58 0 := rfl
        have e3 : zup (zup (zup s 0 0 0) 59 (s 58 0) a) 60 (s 58 0) (-1) 58 0 = s 58 0 := rfl
        simp (discharger := omega) only [zm225, zm225_18, ↓zM_ob, zMs1 hM', zE_0, zE_1, zE_2, zE_3, zE_4, zE_5, zE_6, zE_7, zE_8, zE_9, zE_10, zE_11, zE_12, zE_13, zE_14, zE_neg, zE_add, zE_20000, m1, ↓zb_s, z1, if_false, zMs58 hM', zE_inj, c6, ↓zlet_s, zMs0 hM1, zup_s, Int32.le_refl, if_true, zMs58 hM1, e1, ↓zMa59 hM1, zMs58 hM2, e2, ↓zMa60 hM2, zMs58 hM3, e3, zMs58 hM4, zE_sub]
        congr 4
        omega
  · refine zexI (t := 1) hC hW0 (by omega) (by omega) ?_ (fun h' hM' => ?_)
    · show zm112 (some (12, 0)) (zE a) h = some (.inr 0, zro h 1 6)
      by_cases c1 : a ≤ s 1 0
      · simp (discharger := omega) only [zm112, ↓zo_12, zCs11 cs, zE_le, c1, if_true]
      · have c2 : ¬ a ≤ 20000 := fun z => c ⟨by omega, z⟩
        simp (discharger := omega) only [zm112, ↓zo_12, zCs11 cs, zE_le, c1, if_false, zE_20000, c2]
    · obtain ⟨p, p1, p2⟩ := zp139i (h := h') (x := a) (lo := s 1 0 + 1) (hi := 20000) a1 a2 (by omega) (by omega) (by omega) (by omega)
      have hM1 := hM'.ws 0 (by decide) 1
      rcases p1 with ⟨rfl, p1⟩ | ⟨rfl, -⟩
      · exact absurd (by omega) c
      · simp (discharger := omega) only [zm225, zm225_18, ↓zM_ob, zMs1 hM', zE_0, zE_1, zE_2, zE_3, zE_4, zE_5, zE_6, zE_7, zE_8, zE_9, zE_10, zE_11, zE_12, zE_13, zE_14, zE_neg, zE_add, zE_20000, p2, ↓zb_s, if_true, ↓zlet_s, zMs0 hM1, zup_s, z2, if_false]
