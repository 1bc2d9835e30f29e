set_option maxRecDepth 16384
/-! rise. -/
theorem zw_12_rise {h : zH} {s : zS} (hC : zCl h s) (e : s 44 0 = 0) : zCl (zsi (zsi h 12 0 13 (zE 0)) 12 0 12 (zE 0)) (zup s 43 0 0) := by
  obtain ⟨c1, c2, c3, c4, c5, c6, c7, c8, c9, c10, c11, c12, c13, c14⟩ := hC
  obtain ⟨q0, q1, q2, q3, q4, q5, q6⟩ := c2
  refine ⟨c1, ⟨(zi_j (by decide)).trans ((zi_j (by decide)).trans q0), (zi_j (by decide)).trans (zi_s.trans (congrArg zE zup_s.symm)), (zi_j (by decide)).trans ((zi_j (by decide)).trans q2), (zi_j (by decide)).trans ((zi_j (by decide)).trans q3), (zi_j (by decide)).trans ((zi_j (by decide)).trans q4), (zi_j (by decide)).trans ((zi_j (by decide)).trans q5), fun _ => zi_s.trans (congrArg zE e.symm)⟩, c3, c4, c5, c6, c7, c8, c9, c10, c11, c12, zCM_w c13 ((zKp_i (by decide)).tr (zKp_i (by decide))) rfl rfl rfl rfl, c14⟩
theorem zc82_18 {h : zH} {s : zS} (hR : zCr h) (hC : zCR h s) (hr : 0 ≤ s 30 0 ∧ s 30 0 ≤ 20) (hs : ∀ r, 0 ≤ r → r < s 30 0 → 0 ≤ s 33 r ∧ s 33 r ≤ 4) : zm82_18 zN0 (some (12, 0)) (zE 0) (zE 0) h = some (.inl (zE (zcnt (fun r => s 33 r = 0) (s 30 0).toNat)), h) := by
  refine zloop0 (W := fun n i t => zm82_18 n (some (12, 0)) (zE t) (zE i) h) (N := s 30 0) (fun i t => t = zcnt (fun r => s 33 r = 0) i.toNat) (fun x => x = some (.inl (zE (zcnt (fun r => s 33 r = 0) (s 30 0).toNat)), h)) 0 rfl hr.1 (by omega) ?_ ?_
  · intro n t hb
    subst hb
    simp (discharger := omega) only [zm82_18, ↓zo_12, ↓zLRz hR hC, Int32.le_refl, if_true]
  · intro n i t h1 h2 hb
    have h3 : ¬ s 30 0 ≤ i := by omega
    have hw := hs i h1 h2
    refine Or.inr ⟨t + zcn1 (s 33 i = 0), by rw [zcnt_1 h1, hb], ?_⟩
    by_cases c : s 33 i = 0
    · rw [zcn1_t c]
      simp (discharger := omega) only [zm82_18, zm82_31, ↓zo_12, ↓zLRz hR hC, zE_le, h3, if_false, ↓zLRg hR hC, ↓zo_5, zCr2_ hC, zE_0, zE_1, zE_2, zE_3, zE_4, zE_5, zE_6, zE_7, zE_8, zE_9, zE_10, zE_11, zE_12, zE_13, zE_14, zE_neg, c, if_true, ↓zlet_s, zE_add]
    · rw [zcn1_f c]
      simp (discharger := omega) only [zm82_18, zm82_31, ↓zo_12, ↓zLRz hR hC, zE_le, h3, if_false, ↓zLRg hR hC, ↓zo_5, zCr2_ hC, zE_0, zE_1, zE_2, zE_3, zE_4, zE_5, zE_6, zE_7, zE_8, zE_9, zE_10, zE_11, zE_12, zE_13, zE_14, zE_neg, zE_inj, c, ↓zlet_s, zE_add, Int.add_zero]
theorem zp188_20 {h : zH} {s : zS} (hM : zMd h s) (hr : 0 ≤ s 30 0 ∧ s 30 0 ≤ 20) (hs : ∀ r, 0 ≤ r → r < s 30 0 → 0 ≤ s 33 r ∧ s 33 r ≤ 4) : zm188_20 zN0 (some (13, 0)) (zE 0) (zE 0) h = some (.inl (zE (zcnt (fun r => s 33 r = 0) (s 30 0).toNat)), h) := by
  refine zloop0 (W := fun n i t => zm188_20 n (some (13, 0)) (zE t) (zE i) h) (N := s 30 0) (fun i t => t = zcnt (fun r => s 33 r = 0) i.toNat) (fun x => x = some (.inl (zE (zcnt (fun r => s 33 r = 0) (s 30 0).toNat)), h)) 0 rfl hr.1 (by omega) ?_ ?_
  · intro n t hb
    subst hb
    simp (discharger := omega) only [zm188_20, ↓zM_ob, zMs30 hM, Int32.le_refl, if_true]
  · intro n i t h1 h2 hb
    have h3 : ¬ s 30 0 ≤ i := by omega
    have hw := hs i h1 h2
    refine Or.inr ⟨t + zcn1 (s 33 i = 0), by rw [zcnt_1 h1, hb], ?_⟩
    by_cases c : s 33 i = 0
    · rw [zcn1_t c]
      simp (discharger := omega) only [zm188_20, zm188_33, ↓zM_ob, zMs30 hM, zE_le, h3, if_false, ↓zMi33 hM, zE_0, zE_1, zE_2, zE_3, zE_4, zE_5, zE_6, zE_7, zE_8, zE_9, zE_10, zE_11, zE_12, zE_13, zE_14, zE_neg, c, if_true, ↓zlet_s, zE_add]
    · rw [zcn1_f c]
      simp (discharger := omega) only [zm188_20, zm188_33, ↓zM_ob, zMs30 hM, zE_le, h3, if_false, ↓zMi33 hM, zE_0, zE_1, zE_2, zE_3, zE_4, zE_5, zE_6, zE_7, zE_8, zE_9, zE_10, zE_11, zE_12, zE_13, zE_14, zE_neg, zE_inj, c, ↓zlet_s, zE_add, Int.add_zero]
theorem zr_rise : zPrI (fun h => zm82 (some (12, 0)) h) (fun h => zm188 (some (13, 0)) h) (fun _ => 1) 1 := by
  intro h s hC hM hW
  have z1 : ¬ zE 1 ≤ zE 0 := by decide
  have cr := hC.1
  have cs := hC.2.1
  have cR := hC.2.2.2.2.1
  have hW0 := hW
  obtain ⟨wA, wK, wC, wD, wP, wR, wZ, wT, wG, wE, wM, wX⟩ := hW
  have w1 := wX.1
  by_cases c : s 43 0 = 0
  · refine zexI (t := 1) hC hW0 (by omega) (by omega) ?_ (fun h' hM' => ?_)
    · simp (discharger := omega) only [zm82, ↓zo_12, zCs13 cs, zE_0, zE_1, zE_2, zE_3, zE_4, zE_5, zE_6, zE_7, zE_8, zE_9, zE_10, zE_11, zE_12, zE_13, zE_14, zE_neg, zE_inj, c, if_true]
    · have hM1 := hM'.ws 0 (by decide) 1
      have e4 : zi h' 13 0 43 = 0 := (zMs43 hM').trans ((congrArg zE c).trans zE_0.symm)
      show zm188 (some (13, 0)) h' = _
      rw [zm188, zM_ob, if_pos e4, zm188_7, zM_ob, zlet_s, zM_ob, if_neg (by rw [zi_s]; decide), zE_1, ← zE_0]
  · have w2 := wX.2.2.1 (by omega)
    have hC' := zw_12_rise hC w2
    have hW' : zWf (zup s 43 0 0) := by
      refine ⟨wA, wK, wC, wD, wP, wR, wZ, wT, wG, wE, wM, ⟨?_, wX.2.1, fun z => ?_, wX.2.2.2⟩⟩
      · rw [zup_s]; omega
      · rw [zup_s] at z; omega
    have hs : ∀ r, 0 ≤ r → r < s 30 0 → 0 ≤ s 33 r ∧ s 33 r ≤ 4 := fun r r0 r1 => (wR.2.2 r r0 r1).2.2.1
    refine zokI (v := zcnt (fun r => s 33 r = 0) (s 30 0).toNat) (by omega) hW' (h1 := zsi (zsi h 12 0 13 (zE 0)) 12 0 12 (zE 0)) ?_ hC' ((zKp_i (fun z => z (by unfold zpc1; decide))).tr (zKp_i (fun z => z (by unfold zpc1; decide)))) (by show zce h ≤ _; omega) (by show zso h ≤ _; omega) (fun h' hM' => ?_)
    · show zm82 (some (12, 0)) h = _
      simp (discharger := omega) only [zm82, ↓zo_12, zCs13 cs, zE_0, zE_1, zE_2, zE_3, zE_4, zE_5, zE_6, zE_7, zE_8, zE_9, zE_10, zE_11, zE_12, zE_13, zE_14, zE_neg, zE_inj, c, if_false, ↓zlet_s]
      have e33 : zup s 43 0 0 33 = s 33 := funext fun _ => zup_j (by decide)
      have e30 : zup s 43 0 0 30 0 = s 30 0 := zup_j (by decide)
      have q := zc82_18 (s := zup s 43 0 0) hC'.1 hC'.2.2.2.2.1 (by rw [e30]; exact wR.1) (by rw [e30, e33]; exact hs)
      rw [e33, e30] at q
      exact q
    · have hM1 := hM'.ws 0 (by decide) 0
      have hM2 := hM1.ws 43 (by decide) 0
      refine ⟨zup (zup s 0 0 0) 43 0 0, zsc_c zsc_up, (zup_j (by decide)).trans zup_s, _, ?_, hM2, (zKp_i (fun z => z (Or.inl rfl))).tr (zKp_i (fun z => z (Or.inl rfl))), rfl, rfl⟩
      show zm188 (some (13, 0)) h' = _
      have e4 : ¬ zi h' 13 0 43 = 0 := by rw [zMs43 hM', zE_0, zE_inj (by omega) (by omega) (by omega) (by omega)]; exact c
      rw [zm188, zM_ob, if_neg e4, zm188_7, zM_ob, zlet_s, zM_ob, if_pos (by rw [zi_s]; exact Int32.le_refl _), zlet_s, zE_0]
      have e33 : zup (zup s 0 0 0) 43 0 0 33 = s 33 := funext fun _ => (zup_j (by decide)).trans (zup_j (by decide))
      have e30 : zup (zup s 0 0 0) 43 0 0 30 0 = s 30 0 := (zup_j (by decide)).trans (zup_j (by decide))
      have q := zp188_20 (s := zup (zup s 0 0 0) 43 0 0) hM2 (by rw [e30]; exact wR.1) (by rw [e30, e33]; exact hs)
      rw [e33, e30] at q
      exact q
