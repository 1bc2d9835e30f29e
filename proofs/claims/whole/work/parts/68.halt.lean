set_option maxRecDepth 16384
/-! stale, halt, rise. -/
def zstl (s : zS) : Nat → Int32
  | 0 => zE 0
  | n + 1 => if s 1 0 - s 64 n < 500 then zstl s n else zstl s n ||| (zE 1 <<< (zE n &&& 31))
theorem zc125 {h : zH} {s : zS} (hR : zCr h) (hS : zCs h s) (hG : zCG h s) (hD : zWd s) (hg : zWg s) : zm125 (some (12, 0)) h = some (.inl (zstl s 8), h) := by
  have ht := hD.1
  rw [zm125, zE_0]
  refine zloop0 (W := fun n i (t : Int32) => zm125_4 n (some (12, 0)) t (zE i) h) (N := 8) (fun i t => t = zstl s i.toNat) (fun x => x = some (.inl (zstl s 8), h)) (zE 0) rfl (by omega) (by omega) ?_ ?_
  · intro n t hb
    subst hb
    simp only [zm125_4, zE_8, Int32.le_refl, if_true]
    rfl
  · intro n i t h1 h2 hb
    have h3 : ¬ (8 : Int) ≤ i := by omega
    have hw := (hg.1 i h1 h2).2.2.2.1
    refine Or.inr ⟨if s 1 0 - s 64 i < 500 then t else t ||| (zE 1 <<< (zE i &&& 31)), ?_, ?_⟩
    · rw [show (i + 1).toNat = i.toNat + 1 by omega]
      show _ = (if s 1 0 - s 64 (i.toNat : Int) < 500 then zstl s i.toNat else zstl s i.toNat ||| (zE 1 <<< (zE (i.toNat : Int) &&& 31)))
      rw [Int.toNat_of_nonneg h1, hb]
    · by_cases c : s 1 0 - s 64 i < 500
      · simp (discharger := omega) only [zm125_4, zm125_23, zE_8, zE_le, h3, if_false, ↓zo_12, ↓zLFa hR hG, ↓zo_2, zCs11 hS, zCg4 hG, zE_sub, zE_500, zE_lt, if_pos c, ↓zlet_s, zE_1, zE_add]
      · simp (discharger := omega) only [zm125_4, zm125_23, zE_8, zE_le, h3, if_false, ↓zo_12, ↓zLFa hR hG, ↓zo_2, zCs11 hS, zCg4 hG, zE_sub, zE_500, zE_lt, if_neg c, ↓zlet_s, zE_1, zE_add]
theorem zp237_7 {h : zH} {s : zS} (hM : zMd h s) (hD : zWd s) (hg : zWg s) : zm237_7 zN0 (some (13, 0)) (zE 0) (zE 0) h = some (.inl (zstl s 8), h) := by
  have ht := hD.1
  have oz : ∀ t : Int32, t ||| zE 0 = t := fun t => by rw [← zE_0]; exact Int32.or_zero
  refine zloop0 (W := fun n i (t : Int32) => zm237_7 n (some (13, 0)) t (zE i) h) (N := 8) (fun i t => t = zstl s i.toNat) (fun x => x = some (.inl (zstl s 8), h)) (zE 0) rfl (by omega) (by omega) ?_ ?_
  · intro n t hb
    subst hb
    simp only [zm237_7, zE_8, Int32.le_refl, if_true]
    rfl
  · intro n i t h1 h2 hb
    have h3 : ¬ (8 : Int) ≤ i := by omega
    have hw := (hg.1 i h1 h2).2.2.2.1
    refine Or.inr ⟨if s 1 0 - s 64 i < 500 then t else t ||| (zE 1 <<< (zE i &&& 31)), ?_, ?_⟩
    · rw [show (i + 1).toNat = i.toNat + 1 by omega]
      show _ = (if s 1 0 - s 64 (i.toNat : Int) < 500 then zstl s i.toNat else zstl s i.toNat ||| (zE 1 <<< (zE (i.toNat : Int) &&& 31)))
      rw [Int.toNat_of_nonneg h1, hb]
    · by_cases c : s 1 0 - s 64 i < 500
      · simp (discharger := omega) only [zm237_7, zm237_25, zE_8, zE_le, h3, if_false, ↓zM_ob, ↓zMi64 hM, zMs1 hM, zE_sub, zE_500, zE_lt, if_pos c, ↓zlet_s, zE_0, zE_1, zE_add, oz]
      · simp (discharger := omega) only [zm237_7, zm237_25, zE_8, zE_le, h3, if_false, ↓zM_ob, ↓zMi64 hM, zMs1 hM, zE_sub, zE_500, zE_lt, if_neg c, ↓zlet_s, zE_1, zE_add]
theorem zcase_50 : zCase fun k => zm291_2200 k := by
  refine zdir (C := fun h => zm125 (some (12, 0)) h) (M := fun h => zm237 (some (13, 0)) h) (fun h s hC hM hW => ?_) (fun k i h h1 v e1 e2 => ?_)
  · obtain ⟨cr, cs, -, -, -, -, -, -, -, -, cG, -⟩ := hC
    obtain ⟨-, -, -, wD, -, -, -, -, wG, -⟩ := hW
    have hM1 := hM.ws 0 (by decide) 0
    refine ⟨zstl s 8, zc125 cr cs cG wD wG, ?_⟩
    show zm237 (some (13, 0)) h = _
    rw [zm237, zM_ob, zlet_s, zE_0]
    exact zp237_7 (s := zup s 0 0 0) hM1 wD wG
  · rw [zm291_2200, zo_12, e1, zb_s, zo_13, e2, zb_s, if_pos rfl]
theorem zw_9_5n {h : zH} {s : zS} {v : Int} {x : Int32} (hC : zCl h s) (h0 : 0 ≤ v) (h1 : v < 4) : zCl (zsi (zsi h 9 v.toNat 4 x) 9 v.toNat 5 (zE (-1))) (zup s 23 v (-1)) := by
  obtain ⟨c1, c2, c3, c4, c5, c6, c7, c8, c9, c10, c11, c12, c13, c14⟩ := hC
  refine ⟨c1, c2, c3, c4, c5, c6, c7, c8, ⟨c9.1, fun u u0 u1 => ?_⟩, c10, c11, c12, zCM_w c13 ((zKp_i (by decide)).tr (zKp_i (by decide))) rfl rfl rfl rfl, c14⟩
  obtain ⟨p0, p1, p2, p3, p4, p5, p6, p7, p8, p9, p10, p11, p12, p13, p14⟩ := c9.2 u u0 u1
  by_cases eu : u = v
  · subst eu
    exact ⟨p0, p1, p2, p3, p4, p5, p6, p7, p8, p9, (zi_j (by decide)).trans ((zi_j (by decide)).trans p10), fun z => absurd zup_s z, zi_s.trans (congrArg zE zup_s.symm), (zi_j (by decide)).trans ((zi_j (by decide)).trans p13), (zi_j (by decide)).trans ((zi_j (by decide)).trans p14)⟩
  · have e2 : u.toNat ≠ v.toNat := by omega
    have e3 : zup s 23 v (-1) 23 u = s 23 u := zup_a eu
    exact ⟨p0, p1, p2, p3, p4, p5, p6, p7, p8, p9, (zi_j (by decide)).trans ((zi_j (by decide)).trans p10), fun z => (zi_j (by decide)).trans ((zi_i e2).trans (p11 (by rw [e3] at z; exact z))), (zi_i e2).trans ((zi_j (by decide)).trans (p12.trans (congrArg zE e3.symm))), (zi_j (by decide)).trans ((zi_j (by decide)).trans p13), (zi_j (by decide)).trans ((zi_j (by decide)).trans p14)⟩
theorem zr_halt (x : Int32) : zPrI (fun h => zm97 (some (12, 0)) x h) (fun h => zm206 (some (13, 0)) x h) (fun t => if t = 1 then 0 else 1) 2 := by
  intro h s hC hM hW
  obtain ⟨a, rfl, a1, a2⟩ := zE_ex x
  have z1 : ¬ zE 1 = zE 0 := by decide
  have z2 : ¬ zE 1 ≤ zE 0 := by decide
  have z3 : ¬ zE 2 ≤ zE 0 := by decide
  have cr := hC.1
  have cV := hC.2.2.2.2.2.2.2.2.1
  have hW0 := hW
  obtain ⟨wA, wK, wC, wD, wP, wR, wZ, wT, wG, wE, wM, wX⟩ := hW
  by_cases c : 0 ≤ a ∧ a ≤ 3
  · have w23 := (wD.2.2 a (by omega) (by omega)).2.2.1
    by_cases e : s 23 a = -1
    · refine zexI (t := 2) hC hW0 (by omega) (by omega) ?_ (fun h' hM' => ?_)
      · simp (discharger := omega) only [zm97, zE_0, zE_1, zE_2, zE_3, zE_4, zE_5, zE_6, zE_7, zE_8, zE_9, zE_10, zE_11, zE_12, zE_13, zE_14, zE_neg, zc131, if_pos c, ↓zb_s, ↓zo_12, ↓zLVa cr cV, ↓zo_9, zCv5 cV, zE_inj, e, if_true]
        rfl
      · obtain ⟨p, p1, p2⟩ := zp140 (h := h') (x := a) a1 a2
        have hM1 := hM'.ws 0 (by decide) 2
        rcases p1 with ⟨rfl, -⟩ | ⟨rfl, p1⟩
        · simp (discharger := omega) only [zm206, zm206_15, ↓zM_ob, p2, zE_0, zE_1, zE_2, zE_3, zE_4, zE_5, zE_6, zE_7, zE_8, zE_9, zE_10, zE_11, zE_12, zE_13, zE_14, zE_neg, zb_s, z1, if_false, ↓zMi23 hM', zE_inj, e, if_true, ↓zlet_s, zMs0 hM1, zup_s, z3]
        · exact absurd c p1
    · have hC' := zw_9_5n (v := a) (x := zE (-1)) hC c.1 (by omega)
      have hW' : zWf (zup s 23 a (-1)) := by
        refine ⟨wA, wK, wC, ⟨wD.1, wD.2.1, fun u u0 u1 => ?_⟩, wP, wR, wZ, wT, wG, wE, wM, wX⟩
        obtain ⟨q1, q2, q3, q4, q5⟩ := wD.2.2 u u0 u1
        refine ⟨q1, q2, ?_, q4, q5⟩
        by_cases eu : u = a
        · subst eu; rw [zup_s]; omega
        · rw [zup_a eu]; exact q3
      refine zokI (v := s 24 a) (by omega) hW' (h1 := zsi (zsi h 9 a.toNat 4 (zE (-1))) 9 a.toNat 5 (zE (-1))) ?_ hC' ((zKp_i (fun z => z (by unfold zpc1; decide))).tr (zKp_i (fun z => z (by unfold zpc1; decide)))) (by show zce h ≤ _; omega) (by show zso h ≤ _; omega) (fun h' hM' => ?_)
      · have e6 : zi (zsi (zsi h 9 a.toNat 4 (zE (-1))) 9 a.toNat 5 (zE (-1))) 9 a.toNat 6 = zE (s 24 a) := (zi_j (by decide)).trans ((zi_j (by decide)).trans (zCv6 cV (by omega) (by omega)))
        simp (discharger := omega) only [zm97, zE_0, zE_1, zE_2, zE_3, zE_4, zE_5, zE_6, zE_7, zE_8, zE_9, zE_10, zE_11, zE_12, zE_13, zE_14, zE_neg, zc131, if_pos c, ↓zb_s, ↓zo_12, ↓zLVa cr cV, ↓zo_9, zCv5 cV, zE_inj, e, if_false, ↓zlet_s, e6]
      · obtain ⟨p, p1, p2⟩ := zp140 (h := h') (x := a) a1 a2
        have hM1 := hM'.ws 0 (by decide) 0
        have hM2 := hM1.wa (23, 123, 4) (by decide) a (-1) (by omega)
        rcases p1 with ⟨rfl, -⟩ | ⟨rfl, p1⟩
        · refine ⟨zup (zup s 0 0 0) 23 a (-1), zsc_c zsc_up, (zup_j (by decide)).trans zup_s, _, ?_, hM2, (zKp_i (fun z => z (Or.inl rfl))).tr (zKp_i (fun z => z (Or.inr (by decide)))), rfl, rfl⟩
          show zm206 (some (13, 0)) (zE a) h' = _
          simp (discharger := omega) only [zm206, zm206_15, ↓zM_ob, p2, zE_0, zE_1, zE_2, zE_3, zE_4, zE_5, zE_6, zE_7, zE_8, zE_9, zE_10, zE_11, zE_12, zE_13, zE_14, zE_neg, zb_s, z1, if_false, ↓zMi23 hM', zE_inj, e, if_true, ↓zlet_s, zMs0 hM1, zup_s, Int32.le_refl, ↓zMa23 hM1]
          rw [zMi24 hM2 (by omega) (by omega)]
          rfl
        · exact absurd c p1
  · refine zexI (t := 1) hC hW0 (by omega) (by omega) ?_ (fun h' hM' => ?_)
    · simp (discharger := omega) only [zm97, zE_0, zE_1, zE_2, zE_3, zE_4, zE_5, zE_6, zE_7, zE_8, zE_9, zE_10, zE_11, zE_12, zE_13, zE_14, zE_neg, zc131, if_neg c, ↓zb_x]
      rfl
    · obtain ⟨p, p1, p2⟩ := zp140 (h := h') (x := a) a1 a2
      have hM1 := hM'.ws 0 (by decide) 1
      rcases p1 with ⟨rfl, p1⟩ | ⟨rfl, -⟩
      · exact absurd p1 c
      · simp (discharger := omega) only [zm206, zm206_15, ↓zM_ob, p2, zE_0, zE_1, zE_2, zE_3, zE_4, zE_5, zE_6, zE_7, zE_8, zE_9, zE_10, zE_11, zE_12, zE_13, zE_14, zE_neg, zb_s, if_true, ↓zlet_s, zMs0 hM1, zup_s, z2, if_false]
