set_option maxRecDepth 16384
/-! rise. -/
theorem zw_12_rise {h : zH} {s : zS} (hC : zCl h s) (e : s 44 0 = 0) : zCl (zsi (zsi h 12 0 13 (zE 0)) 12 0 12 (zE 0)) (zup s 43 0 0) := by
  obtain ⟨c1, c2, c3, c4, c5, c6, c7, c8, c9, c10, c11, c12, c13, c14⟩ := hC
  obtain ⟨q0, q1, q2, q3, q4, q5, q6⟩ := c2
  refine ⟨c1, ⟨(zi_j (by decide)).trans ((zi_j (by decide)).trans q0), (zi_j (by decide)).trans (zi_s.trans (congrArg zE zup_s.symm)), (zi_j (by decide)).trans ((zi_j (by decide)).trans q2), (zi_j (by decide)).trans ((zi_j (by decide)).trans q3), (zi_j (by decide)).trans ((zi_j (by decide)).trans q4), (zi_j (by decide)).trans ((zi_j (by decide)).trans q5), fun _ => zi_s.trans (congrArg zE e.symm)⟩, c3, c4, c5, c6, c7, c8, c9, c10, c11, c12, zCM_w c13 ((zKp_i (by decide)).tr (zKp_i (by decide))) rfl rfl rfl rfl, c14⟩
theorem zc82_18 {h : zH} {s : zS} (hR : zCr h) (hC : zCR h s) (hr : 0 ≤ s 30 0 ∧ s 30 0 ≤ 20) (hs : ∀ r, 0 ≤ r → r < s 30 0 → 0 ≤ s 33 r ∧ s 33 r ≤ 4) : zm82_18 zN0 (some (12, 0)) (zE 0) (zE 0) h = some (.inl (zE (zcnt (fun r => s 33 r = 0) (s 30 0).toNat)), h) := by
  refine zloop0 (W := fun n i t => zm82_18 n (some (12, 0)) (zE t) (zE i) h) (N := s 30 0) (fun i t => t = zcnt (fun r => s 33 r = 0) i.toNat) (fun x => x = some (.inl (zE (zcnt (fun r => s 33 r = 0) (s 30 0).toNat)), h)) 0 rfl hr.1 (by omega) ?_ ?_
  · intro n t hb
    subst hb
    simp (discharger := omega) only [zm82_18, ↓zo_12, ↓zLRz hR hC, Int32.le_refl, if_true]
  · intro n i t h1 h2 hb
    have h3 : ¬ s 30 0 ≤ i := by omega
    have hw := hs i h1 h2
    refine Or.inr ⟨t + zcn1 (s 33 i = 0), by rw [zcnt_1 h1, hb], ?_⟩
    by_cases c : s 33 i = 0
    · rw [zcn1_t c]
      simp (discharger := omega) only [zm82_18, zm82_31, ↓zo_12, ↓zLRz hR hC, zE_le, h3, if_false, ↓zLRg hR hC, ↓zo_5, zCr2_ hC, zE_0, zE_1, zE_2, zE_3, zE_4, zE_5, zE_6, zE_7, zE_8, zE_9, zE_10, zE_11, zE_12, zE_13, zE_14, zE_neg, c, if_true, ↓zlet_s, zE_add]
    · rw [zcn1_f c]
      simp (discharger := omega) only [zm82_18, zm82_31, ↓zo_12, ↓zLRz hR hC, zE_le, h3, if_false, ↓zLRg hR hC, ↓zo_5, zCr2_ hC, zE_0, zE_1, zE_2, zE_3, zE_4, zE_5, zE_6, zE_7, zE_8, zE_9, zE_10, zE_11, zE_12, zE_13, zE_14, zE_neg, zE_inj, c, ↓zlet_s, zE_add, Int.add_zero]
