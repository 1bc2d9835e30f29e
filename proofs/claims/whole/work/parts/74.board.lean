set_option maxRecDepth 16384
/-! board. -/
theorem zr_i {h : zH} {k i j i' j' : Nat} {v : zq} (e : i' ≠ i) : zr (zsr h k i j v) k i' j' = zr h k i' j' := if_neg fun z => e z.2.1
theorem zw_5_7 {h : zH} {s : zS} {r a : Int} (hC : zCl h s) (h0 : 0 ≤ r) (h1 : r < s 30 0) : zCl (zsr h 5 r.toNat 7 (zrf 11 a)) (zup s 40 r a) := by
  obtain ⟨c1, c2, c3, c4, c5, c6, c7, c8, c9, c10, c11, c12, c13, c14⟩ := hC
  refine ⟨c1, c2, c3, c4, ⟨c5.1, fun u u0 u1 => ?_⟩, c6, c7, c8, c9, c10, c11, c12, zCM_w c13 (zKp_r (by decide)) rfl rfl rfl rfl, c14⟩
  obtain ⟨p0, p1, p2, p3, p4, p5, p6, p7, p8, p9, p10, p11, p12, p13, p14, p15⟩ := c5.2 u u0 u1
  by_cases eu : u = r
  · subst eu
    exact ⟨p0, (zr_j (by decide)).trans p1, (zr_j (by decide)).trans p2, p3, p4, p5, p6, p7, p8, zr_s.trans (congrArg (zrf 11) zup_s.symm), (zr_j (by decide)).trans p10, (zr_j (by decide)).trans p11, p12, p13, p14, p15⟩
  · have e2 : u.toNat ≠ r.toNat := by omega
    exact ⟨p0, (zr_j (by decide)).trans p1, (zr_j (by decide)).trans p2, p3, p4, p5, p6, p7, p8, (zr_i e2).trans (p9.trans (congrArg (zrf 11) (zup_a eu).symm)), (zr_j (by decide)).trans p10, (zr_j (by decide)).trans p11, p12, p13, p14, p15⟩
theorem zc113_45 {h : zH} {s : zS} {a : Int} (hR : zCr h) (hC : zCR h s) (hr : 0 ≤ s 30 0 ∧ s 30 0 ≤ 20) (hs : ∀ r, 0 ≤ r → r < s 30 0 → -1 ≤ s 40 r) (a0 : 0 ≤ a) : zm113_45 zN0 (some (12, 0)) (some (11, a.toNat)) (zE 0) (zE 0) h = some (.inl (zE (zcnt (fun r => s 40 r = a) (s 30 0).toNat)), h) := by
  refine zloop0 (W := fun n i t => zm113_45 n (some (12, 0)) (some (11, a.toNat)) (zE t) (zE i) h) (N := s 30 0) (fun i t => t = zcnt (fun r => s 40 r = a) i.toNat) (fun x => x = some (.inl (zE (zcnt (fun r => s 40 r = a) (s 30 0).toNat)), h)) 0 rfl hr.1 (by omega) ?_ ?_
  · intro n t hb
    subst hb
    simp (discharger := omega) only [zm113_45, ↓zo_12, ↓zLRz hR hC, Int32.le_refl, if_true]
  · intro n i t h1 h2 hb
    have h3 : ¬ s 30 0 ≤ i := by omega
    have hw := hs i h1 h2
    have he : (zrf 11 (s 40 i) = some (11, a.toNat)) = (s 40 i = a) := by
      rw [← zrf_s (k := 11) a0, zrf_i hw (by omega)]
    refine Or.inr ⟨t + zcn1 (s 40 i = a), by rw [zcnt_1 h1, hb], ?_⟩
    by_cases c : s 40 i = a
    · rw [zcn1_t c]
      have he2 : zrf 11 (s 40 i) = some (11, a.toNat) := he.mpr c
      simp (discharger := omega) only [zm113_45, zm113_59, ↓zo_12, ↓zLRz hR hC, zE_le, h3, if_false, ↓zLRg hR hC, ↓zo_5, zCr7_ hC, zE_0, zE_1, zE_2, zE_3, zE_4, zE_5, zE_6, zE_7, zE_8, zE_9, zE_10, zE_11, zE_12, zE_13, zE_14, zE_neg, he2, if_true, ↓zlet_s, zE_add]
    · rw [zcn1_f c]
      have he2 : (zrf 11 (s 40 i) = some (11, a.toNat)) = False := he.trans (eq_false c)
      simp (discharger := omega) only [zm113_45, zm113_59, ↓zo_12, ↓zLRz hR hC, zE_le, h3, if_false, ↓zLRg hR hC, ↓zo_5, zCr7_ hC, zE_0, zE_1, zE_2, zE_3, zE_4, zE_5, zE_6, zE_7, zE_8, zE_9, zE_10, zE_11, zE_12, zE_13, zE_14, zE_neg, he2, ↓zlet_s, zE_add, Int.add_zero]
theorem zp227_45 {h : zH} {s : zS} {a : Int} (hM : zMd h s) (hr : 0 ≤ s 30 0 ∧ s 30 0 ≤ 20) (hs : ∀ r, 0 ≤ r → r < s 30 0 → -1 ≤ s 40 r ∧ s 40 r ≤ 6) (a0 : 0 ≤ a ∧ a ≤ 6) : zm227_45 zN0 (some (13, 0)) (zE a) (zE 0) (zE 0) h = some (.inl (zE (zcnt (fun r => s 40 r = a) (s 30 0).toNat)), h) := by
  refine zloop0 (W := fun n i t => zm227_45 n (some (13, 0)) (zE a) (zE t) (zE i) h) (N := s 30 0) (fun i t => t = zcnt (fun r => s 40 r = a) i.toNat) (fun x => x = some (.inl (zE (zcnt (fun r => s 40 r = a) (s 30 0).toNat)), h)) 0 rfl hr.1 (by omega) ?_ ?_
  · intro n t hb
    subst hb
    simp (discharger := omega) only [zm227_45, ↓zM_ob, zMs30 hM, Int32.le_refl, if_true]
  · intro n i t h1 h2 hb
    have h3 : ¬ s 30 0 ≤ i := by omega
    have hw := hs i h1 h2
    refine Or.inr ⟨t + zcn1 (s 40 i = a), by rw [zcnt_1 h1, hb], ?_⟩
    by_cases c : s 40 i = a
    · rw [zcn1_t c]
      simp (discharger := omega) only [zm227_45, zm227_59, ↓zM_ob, zMs30 hM, zE_le, h3, if_false, ↓zMi40 hM, zE_0, zE_1, zE_2, zE_3, zE_4, zE_5, zE_6, zE_7, zE_8, zE_9, zE_10, zE_11, zE_12, zE_13, zE_14, zE_neg, c, if_true, ↓zlet_s, zE_add]
    · rw [zcn1_f c]
      simp (discharger := omega) only [zm227_45, zm227_59, ↓zM_ob, zMs30 hM, zE_le, h3, if_false, ↓zMi40 hM, zE_0, zE_1, zE_2, zE_3, zE_4, zE_5, zE_6, zE_7, zE_8, zE_9, zE_10, zE_11, zE_12, zE_13, zE_14, zE_neg, zE_inj, c, ↓zlet_s, zE_add, Int.add_zero]
theorem zp227_x {x1 x2 : Int32} {t : Int} {h : zH} (t1 : 1 ≤ t) (t2 : t ≤ 2) : zm227_30 (some (13, 0)) x1 x2 (some (13, 0)) (zE t) h = some (.inl (zE 0), zsi h 13 0 0 (zE t)) := by
  rw [zm227_30, zM_ob, zlet_s, zM_ob, if_neg, zE_0]
  rw [zi_s, zE_0, zE_le (by omega) (by omega) (by omega) (by omega)]
  omega
theorem zr_board (x y : Int32) : zPrI (fun h => zm113 (some (12, 0)) x y h) (fun h => zm227 (some (13, 0)) x y h) (fun t => if t = 1 then 2 else 1) 2 := by
  intro h s hC hM hW
  obtain ⟨a, rfl, a1, a2⟩ := zE_ex x
  obtain ⟨r, rfl, r1, r2⟩ := zE_ex y
  have z1 : ¬ zE 1 = zE 0 := by decide
  have cr := hC.1
  have cR := hC.2.2.2.2.1
  have cT := hC.2.2.2.2.2.2.1
  have hW0 := hW
  obtain ⟨wA, wK, wC, wD, wP, wR, wZ, wT, wG, wE, wM, wX⟩ := hW
  have hn := wT.1
  have hr := wR.1
  by_cases c : (0 ≤ a ∧ a < s 58 0) ∧ 0 ≤ r ∧ r < s 30 0
  · obtain ⟨c1, c2⟩ := c
    have m1 : ∀ h', zMd h' s → zm226 (some (13, 0)) (zE a) h' = some (.inl (zE 1), h') := fun h' hM' => by
      obtain ⟨p, p1, p2⟩ := zp226 hM' wT (x := a) a1 a2
      rwa [p1.u (zbo_1 c1)] at p2
    have m2 : ∀ h', zMd h' s → zm143 (some (13, 0)) (zE r) h' = some (.inl (zE 1), h') := fun h' hM' => by
      obtain ⟨p, p1, p2⟩ := zp143 hM' wR (x := r) r1 r2
      rwa [p1.u (zbo_1 c2)] at p2
    have w60 := wT.2 a c1.1 c1.2
    have w40 := (wR.2.2 r c2.1 c2.2).2.2.2.2.2.2.2.2.2.1
    obtain ⟨b, b1, b2⟩ := zc10 cR wR c2.1 c2.2
    have he : (zrf 11 (s 40 r) = some (11, a.toNat)) = (s 40 r = a) := by
      rw [← zrf_s (k := 11) c1.1, zrf_i (by omega) (by omega)]
    have hx : ∀ (hc : zm113 (some (12, 0)) (zE a) (zE r) h = some (.inr 1, zro h 1 6)) (hm : ∀ h', zMd h' s → zm227 (some (13, 0)) (zE a) (zE r) h' = zm227_30 (some (13, 0)) (zE a) (zE r) (some (13, 0)) (zE 2) h'), _ := fun hc hm => zexI (C := fun h => zm113 (some (12, 0)) (zE a) (zE r) h) (M := fun h => zm227 (some (13, 0)) (zE a) (zE r) h) (ex := fun t => if t = 1 then 2 else 1) (tm := 2) (t := 2) hC hW0 (by omega) (by omega) hc fun h' hM' => (hm h' hM').trans (zp227_x (by omega) (by omega))
    by_cases e6 : s 60 a = -1
    · rcases b1 with ⟨rfl, b1⟩ | ⟨rfl, b1⟩
      · refine hx ?_ fun h' hM' => ?_
        · simp (discharger := omega) only [zm113, ↓zo_12, ↓zLTz cr cT, zc130, if_pos c1, ↓zb_s, ↓zLRz cr cR, if_pos c2, ↓zLTg cr cT, ↓zo_11, ↓zLRg cr cR, ↓zo_5, zCt1 cT, zE_0, zE_1, zE_2, zE_3, zE_4, zE_5, zE_6, zE_7, zE_8, zE_9, zE_10, zE_11, zE_12, zE_13, zE_14, zE_neg, zE_inj, e6, if_true, b2, z1, if_false]
        · obtain ⟨f, f1, f2⟩ := zp156 hM' wR c2.1 c2.2
          have : f = 1 := f1.u (zbo_1 b1)
          subst this
          simp (discharger := omega) only [zm227, ↓zM_ob, m1 h' hM', m2 h' hM', zE_0, zE_1, zE_2, zE_3, zE_4, zE_5, zE_6, zE_7, zE_8, zE_9, zE_10, zE_11, zE_12, zE_13, zE_14, zE_neg, ↓zb_s, z1, if_false, ↓zMi60 hM', zE_inj, e6, if_true, f2]
      · by_cases e4 : s 40 r = a
        · refine hx ?_ fun h' hM' => ?_
          · have he2 : zrf 11 (s 40 r) = some (11, a.toNat) := he.mpr e4
            simp (discharger := omega) only [zm113, ↓zo_12, ↓zLTz cr cT, zc130, if_pos c1, ↓zb_s, ↓zLRz cr cR, if_pos c2, ↓zLTg cr cT, ↓zo_11, ↓zLRg cr cR, ↓zo_5, zCt1 cT, zE_0, zE_1, zE_2, zE_3, zE_4, zE_5, zE_6, zE_7, zE_8, zE_9, zE_10, zE_11, zE_12, zE_13, zE_14, zE_neg, zE_inj, e6, if_true, b2, zCr7_ cR, he2]
          · obtain ⟨f, f1, f2⟩ := zp156 hM' wR c2.1 c2.2
            have : f = 0 := f1.u (zbo_0 b1)
            subst this
            simp (discharger := omega) only [zm227, ↓zM_ob, m1 h' hM', m2 h' hM', zE_0, zE_1, zE_2, zE_3, zE_4, zE_5, zE_6, zE_7, zE_8, zE_9, zE_10, zE_11, zE_12, zE_13, zE_14, zE_neg, ↓zb_s, z1, if_false, ↓zMi60 hM', zE_inj, e6, if_true, f2, ↓zMi40 hM', e4]
        · have hC' := zw_5_7 (a := a) hC c2.1 c2.2
          rw [zrf_s c1.1] at hC'
          have hW' : zWf (zup s 40 r a) := by
            refine ⟨wA, wK, wC, wD, wP, ⟨wR.1, wR.2.1, fun u u0 u1 => ?_⟩, wZ, wT, wG, wE, wM, wX⟩
            obtain ⟨q1, q2, q3, q4, q5, q6, q7, q8, q9, q10, q11⟩ := wR.2.2 u u0 u1
            refine ⟨q1, q2, q3, q4, q5, q6, q7, q8, q9, ?_, q11⟩
            by_cases e : u = r
            · subst e; rw [zup_s]; show -1 ≤ a ∧ a < s 58 0; omega
            · rw [zup_a e]; exact q10
          have h40 : ∀ u, 0 ≤ u → u < s 30 0 → -1 ≤ zup s 40 r a 40 u ∧ zup s 40 r a 40 u ≤ 6 := fun u u0 u1 => by
            have : -1 ≤ zup s 40 r a 40 u ∧ zup s 40 r a 40 u < s 58 0 := (hW'.2.2.2.2.2.1.2.2 u u0 u1).2.2.2.2.2.2.2.2.2.1
            omega
          have he2 : (zrf 11 (s 40 r) = some (11, a.toNat)) = False := he.trans (eq_false e4)
          have q := zc113_45 (s := zup s 40 r a) (a := a) hC'.1 hC'.2.2.2.2.1 wR.1 (fun u u0 u1 => (h40 u u0 u1).1) c1.1
          refine zokI (v := zcnt (fun u => zup s 40 r a 40 u = a) (s 30 0).toNat) (by omega) hW' (h1 := zsr h 5 r.toNat 7 (some (11, a.toNat))) ?_ hC' (zKp_r (fun z => z (by unfold zpc1; decide))) (by show zce h ≤ _; omega) (by show zso h ≤ _; omega) (fun h' hM' => ?_)
          · show zm113 (some (12, 0)) (zE a) (zE r) h = _
            refine Eq.trans ?_ q
            simp (discharger := omega) only [zm113, ↓zo_12, ↓zLTz cr cT, zc130, if_pos c1, ↓zb_s, ↓zLRz cr cR, if_pos c2, ↓zLTg cr cT, ↓zo_11, ↓zLRg cr cR, ↓zo_5, zCt1 cT, zE_0, zE_1, zE_2, zE_3, zE_4, zE_5, zE_6, zE_7, zE_8, zE_9, zE_10, zE_11, zE_12, zE_13, zE_14, zE_neg, zE_inj, e6, if_true, b2, zCr7_ cR, he2, if_false, ↓zlet_s]
          · have hM1 := hM'.ws 0 (by decide) 0
            have hM2 := hM1.wa (40, 140, 20) (by decide) r a (by omega)
            obtain ⟨f, f1, f2⟩ := zp156 hM' wR c2.1 c2.2
            have : f = 0 := f1.u (zbo_0 b1)
            subst this
            have q2 := zp227_45 (s := zup (zup s 0 0 0) 40 r a) (a := a) hM2 wR.1 h40 (by omega)
            refine ⟨zup (zup s 0 0 0) 40 r a, zsc_c zsc_up, (zup_j (by decide)).trans zup_s, _, ?_, hM2, (zKp_i (fun z => z (Or.inl rfl))).tr (zKp_i (fun z => z (Or.inr (by decide)))), rfl, rfl⟩
            show zm227 (some (13, 0)) (zE a) (zE r) h' = _
            refine Eq.trans ?_ q2
            simp (discharger := omega) only [zm227, ↓zM_ob, m1 h' hM', m2 h' hM', zE_0, zE_1, zE_2, zE_3, zE_4, zE_5, zE_6, zE_7, zE_8, zE_9, zE_10, zE_11, zE_12, zE_13, zE_14, zE_neg, ↓zb_s, z1, if_false, ↓zMi60 hM', zE_inj, e6, if_true, f2, ↓zMi40 hM', e4]
            rw [zm227_30, zM_ob, zlet_s, zM_ob, if_pos (by rw [zi_s]; exact Int32.le_refl _), zMa40 hM1 c2.1 (by omega), zlet_s, zE_0]
    · refine hx ?_ fun h' hM' => ?_
      · simp (discharger := omega) only [zm113, ↓zo_12, ↓zLTz cr cT, zc130, if_pos c1, ↓zb_s, ↓zLRz cr cR, if_pos c2, ↓zLTg cr cT, ↓zo_11, ↓zLRg cr cR, ↓zo_5, zCt1 cT, zE_0, zE_1, zE_2, zE_3, zE_4, zE_5, zE_6, zE_7, zE_8, zE_9, zE_10, zE_11, zE_12, zE_13, zE_14, zE_neg, zE_inj, e6, if_false]
      · simp (discharger := omega) only [zm227, ↓zM_ob, m1 h' hM', m2 h' hM', zE_0, zE_1, zE_2, zE_3, zE_4, zE_5, zE_6, zE_7, zE_8, zE_9, zE_10, zE_11, zE_12, zE_13, zE_14, zE_neg, ↓zb_s, z1, if_false, ↓zMi60 hM', zE_inj, e6]
  · refine zexI (t := 1) hC hW0 (by omega) (by omega) ?_ (fun h' hM' => ?_)
    · show zm113 (some (12, 0)) (zE a) (zE r) h = some (.inr 2, zro h 1 6)
      by_cases c1 : 0 ≤ a ∧ a < s 58 0
      · have c2 : ¬ (0 ≤ r ∧ r < s 30 0) := fun z => c ⟨c1, z⟩
        simp (discharger := omega) only [zm113, ↓zo_12, ↓zLTz cr cT, zc130, if_pos c1, ↓zb_s, ↓zLRz cr cR, if_neg c2, ↓zb_x]
      · simp (discharger := omega) only [zm113, ↓zo_12, ↓zLTz cr cT, zc130, if_neg c1, ↓zb_x]
    · show zm227 (some (13, 0)) (zE a) (zE r) h' = _
      obtain ⟨p, p1, p2⟩ := zp226 hM' wT (x := a) a1 a2
      obtain ⟨q, q1, q2⟩ := zp143 hM' wR (x := r) r1 r2
      rcases p1 with ⟨rfl, p1⟩ | ⟨rfl, -⟩
      · rcases q1 with ⟨rfl, q1⟩ | ⟨rfl, -⟩
        · exact absurd ⟨p1, q1⟩ c
        · simp (discharger := omega) only [zm227, ↓zM_ob, p2, q2, zE_0, zE_1, zE_2, zE_3, zE_4, zE_5, zE_6, zE_7, zE_8, zE_9, zE_10, zE_11, zE_12, zE_13, zE_14, zE_neg, ↓zb_s, z1, if_false, if_true]
          exact zp227_x (t := 1) (by omega) (by omega)
      · simp (discharger := omega) only [zm227, ↓zM_ob, p2, zE_0, zE_1, zE_2, zE_3, zE_4, zE_5, zE_6, zE_7, zE_8, zE_9, zE_10, zE_11, zE_12, zE_13, zE_14, zE_neg, ↓zb_s, if_true]
        exact zp227_x (t := 1) (by omega) (by omega)
