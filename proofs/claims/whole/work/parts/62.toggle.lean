set_option maxRecDepth 16384
/-! Calls that turn one thing: both sides. -/
theorem zE_01 {v : Int} (h : v = 0 ∨ v = 1) : zE v = 0 ∨ zE v = 1 := by
  rcases h with rfl | rfl
  · exact Or.inl rfl
  · exact Or.inr rfl
theorem zr_hold (x : Int32) : zPrZ (fun h => zm106 (some (12, 0)) x h) (fun h => zm219 (some (13, 0)) x h) (fun _ => 0) 1 := by
  intro h s hC hM hW
  obtain ⟨a, rfl, a1, a2⟩ := zE_ex x
  have z1 : ¬ zE 1 = zE 0 := by decide
  have z2 : ¬ zE 1 ≤ zE 0 := by decide
  have cr := hC.1
  have cV := hC.2.2.2.2.2.2.2.2.1
  obtain ⟨wA, wK, wC, wD, wP, wR, wZ, wT, wG, wE, wM, wX⟩ := hW
  by_cases c : 0 ≤ a ∧ a ≤ 3
  · have w50 := (wD.2.2 a (by omega) (by omega)).2.2.2.2
    obtain ⟨v, hv, hv1⟩ : ∃ v, v = 1 - s 50 a ∧ (v = 0 ∨ v = 1) := ⟨_, rfl, by omega⟩
    have hv0 := zE_01 hv1
    have hW' : zWf (zup s 50 a v) := by
      refine ⟨wA, wK, wC, ⟨wD.1, wD.2.1, fun u u0 u1 => ?_⟩, wP, wR, wZ, wT, wG, wE, wM, wX⟩
      obtain ⟨q1, q2, q3, q4, q5⟩ := wD.2.2 u u0 u1
      refine ⟨q1, q2, q3, q4, ?_⟩
      by_cases e : u = a
      · subst e; rw [zup_s]; omega
      · rw [zup_a e]; exact q5
    have hC' := zw_9_7 (x := v) hC c.1 (by omega)
    refine zokZ (v := v) (h1 := zsi h 9 a.toNat 7 (zE v)) (s' := zup s 50 a v) (by omega) hv1 hW' ?_ hC' (zKp_i (fun z => z (by unfold zpc1; decide))) (by show zce h ≤ _; omega) (by show zso h ≤ _; omega) (fun h' hM' => ?_)
    · have e7 : zi (zsi h 9 a.toNat 7 (zE v)) 9 a.toNat 7 = zE v := zi_s
      by_cases e : s 50 a = 0
      · have : v = 1 := by omega
        subst this
        simp (discharger := omega) only [zm106, zE_0, zE_1, zE_2, zE_3, zE_4, zE_5, zE_6, zE_7, zE_8, zE_9, zE_10, zE_11, zE_12, zE_13, zE_14, zE_neg, zc131, if_pos c, ↓zb_s, ↓zo_12, ↓zo_9, ↓zLVa cr cV, zCv7 cV, zE_inj, e, if_true]
        simp only [zm106_16, ↓zo_9, ↓zlet_s, e7]
        rw [zif_s hv0, zif_s hv0]
      · have : v = 0 := by omega
        subst this
        simp (discharger := omega) only [zm106, zE_0, zE_1, zE_2, zE_3, zE_4, zE_5, zE_6, zE_7, zE_8, zE_9, zE_10, zE_11, zE_12, zE_13, zE_14, zE_neg, zc131, if_pos c, ↓zb_s, ↓zo_12, ↓zo_9, ↓zLVa cr cV, zCv7 cV, zE_inj, e, if_false]
        simp only [zm106_16, ↓zo_9, ↓zlet_s, e7]
        rw [zif_s hv0, zif_s hv0]
    · obtain ⟨p, p1, p2⟩ := zp140 (h := h') (x := a) a1 a2
      have hM1 := hM'.ws 0 (by decide) 0
      have hM2 := hM1.wa (50, 250, 4) (by decide) a v (by omega)
      rcases p1 with ⟨rfl, -⟩ | ⟨rfl, p1⟩
      · refine ⟨zup (zup s 0 0 0) 50 a v, zsc_c zsc_up, (zup_j (by decide)).trans zup_s, _, ?_, hM2, (zKp_i (fun z => z (Or.inl rfl))).tr (zKp_i (fun z => z (Or.inr (by decide)))), rfl, rfl⟩
        show zm219 (some (13, 0)) (zE a) h' = _
        have e5 : (zup s 0 0 0) 50 a = s 50 a := rfl
        by_cases e : s 50 a = 0
        · have : v = 1 := by omega
          subst this
          simp (discharger := omega) only [zm219, zm219_7, ↓zM_ob, p2, zb_s, ↓zlet_s, zE_0, z1, if_false, zMs0 hM1, zup_s, Int32.le_refl, if_true, ↓zMi50 hM1, zE_inj, e5, e]
          simp (discharger := omega) only [zm219_24, ↓zMa50 hM1]
          rw [zif_s (Or.inr trivial)]
          simp (discharger := omega) only [↓zlet_s, ↓zM_ob, zE_1]
          rw [zMi50 hM2 (by omega) (by omega), zup_s]
          rfl
        · have : v = 0 := by omega
          subst this
          simp (discharger := omega) only [zm219, zm219_7, ↓zM_ob, p2, zb_s, ↓zlet_s, zE_0, z1, if_false, zMs0 hM1, zup_s, Int32.le_refl, if_true, ↓zMi50 hM1, zE_inj, e5, e]
          simp (discharger := omega) only [zm219_24, ↓zMa50 hM1]
          rw [zif_s hv0]
          simp (discharger := omega) only [↓zlet_s, ↓zM_ob]
          rw [zMi50 hM2 (by omega) (by omega), zup_s]
          rfl
      · exact absurd c p1
  · refine zexZ (t := 1) hC ⟨wA, wK, wC, wD, wP, wR, wZ, wT, wG, wE, wM, wX⟩ (by omega) (by omega) ?_ (fun h' hM' => ?_)
    · simp (discharger := omega) only [zm106, zE_0, zE_1, zE_2, zE_3, zE_4, zE_5, zE_6, zE_7, zE_8, zE_9, zE_10, zE_11, zE_12, zE_13, zE_14, zE_neg, zc131, if_neg c, ↓zb_x]
    · obtain ⟨p, p1, p2⟩ := zp140 (h := h') (x := a) a1 a2
      have hM1 := hM'.ws 0 (by decide) 1
      rcases p1 with ⟨rfl, p1⟩ | ⟨rfl, -⟩
      · exact absurd p1 c
      · simp (discharger := omega) only [zm219, zm219_7, ↓zM_ob, p2, zE_0, zE_1, zE_2, zE_3, zE_4, zE_5, zE_6, zE_7, zE_8, zE_9, zE_10, zE_11, zE_12, zE_13, zE_14, zE_neg, zb_s, ↓zlet_s, if_true, zMs0 hM1, zup_s, z2, if_false]
