set_option maxRecDepth 16384
/-! kill, expand, halt: both sides. -/
theorem zp229 {h : zH} {x : Int} (h1 : -2147483648 ≤ x) (h2 : x < 2147483648) : ∃ b, zbo b (0 ≤ x ∧ x ≤ 7) ∧ zm229 (zE x) h = some (.inl (zE b), h) := by
  obtain ⟨b, e1, e2⟩ := zp139i (h := h) (lo := 0) (hi := 7) h1 h2 (by omega) (by omega) (by omega) (by omega)
  refine ⟨b, e1, ?_⟩
  rw [zm229, zE_0, zE_7, e2, zb_s]
  exact zif_s e1.e
theorem zr_kill (x : Int32) : zPrZ (fun h => zm118 (some (12, 0)) x h) (fun h => zm232 (some (13, 0)) x h) (fun _ => 0) 1 := by
  intro h s hC hM hW
  obtain ⟨a, rfl, a1, a2⟩ := zE_ex x
  have z1 : ¬ zE 1 = zE 0 := by decide
  have z2 : ¬ zE 1 ≤ zE 0 := by decide
  have cr := hC.1
  have cG := hC.2.2.2.2.2.2.2.2.2.2.1
  obtain ⟨wA, wK, wC, wD, wP, wR, wZ, wT, wG, wE, wM, wX⟩ := hW
  by_cases c : 0 ≤ a ∧ a ≤ 7
  · have w50 := (wG.1 a (by omega) (by omega)).2.2.1
    obtain ⟨v, hv, hv1⟩ : ∃ v, v = 1 - s 63 a ∧ (v = 0 ∨ v = 1) := ⟨_, rfl, by omega⟩
    have hv0 := zE_01 hv1
    have hW' : zWf (zup s 63 a v) := by
      refine ⟨wA, wK, wC, wD, wP, wR, wZ, wT, ⟨fun u u0 u1 => ?_, wG.2⟩, wE, wM, wX⟩
      obtain ⟨q1, q2, q3, q4, q5⟩ := wG.1 u u0 u1
      refine ⟨q1, q2, ?_, q4, q5⟩
      by_cases e : u = a
      · subst e; rw [zup_s]; omega
      · rw [zup_a e]; exact q3
    have hC' := zw_2_3 (x := v) hC c.1 (by omega)
    have cG' := hC'.2.2.2.2.2.2.2.2.2.2.1
    refine zokZ (v := v) (h1 := zsi h 2 a.toNat 3 (zE v)) (s' := zup s 63 a v) (by omega) hv1 hW' ?_ hC' (zKp_i (fun z => z (by unfold zpc1; decide))) (by show zce h ≤ _; omega) (by show zso h ≤ _; omega) (fun h' hM' => ?_)
    · have e7 : zi (zsi h 2 a.toNat 3 (zE v)) 2 a.toNat 3 = zE v := zi_s
      have ef : ∀ f : zq → zRs Int32, zra (zr (zsi h 2 a.toNat 3 (zE v)) 12 0 7) (zE a) (zsi h 2 a.toNat 3 (zE v)) f = f (some (2, a.toNat)) := fun f => zLFa hC'.1 cG' (by omega) (by omega)
      by_cases e : s 63 a = 0
      · have : v = 1 := by omega
        subst this
        simp (discharger := omega) only [zm118, zE_0, zE_1, zE_2, zE_3, zE_4, zE_5, zE_6, zE_7, zE_8, zE_9, zE_10, zE_11, zE_12, zE_13, zE_14, zE_neg, zc131, if_pos c, ↓zb_s, ↓zo_12, ↓zo_2, ↓zLFa cr cG, zCg3 cG, zE_inj, e, if_true]
        simp only [zm118_17, ↓zo_2]
        rw [zif_s hv0, zlet_s]
        simp only [↓zo_12, ef, ↓zo_2, e7]
        rw [zif_s hv0]
      · have : v = 0 := by omega
        subst this
        simp (discharger := omega) only [zm118, zE_0, zE_1, zE_2, zE_3, zE_4, zE_5, zE_6, zE_7, zE_8, zE_9, zE_10, zE_11, zE_12, zE_13, zE_14, zE_neg, zc131, if_pos c, ↓zb_s, ↓zo_12, ↓zo_2, ↓zLFa cr cG, zCg3 cG, zE_inj, e, if_false]
        simp only [zm118_17, ↓zo_2]
        rw [zif_s hv0, zlet_s]
        simp only [↓zo_12, ef, ↓zo_2, e7]
        rw [zif_s hv0]
    · obtain ⟨p, p1, p2⟩ := zp229 (h := h') (x := a) a1 a2
      have hM1 := hM'.ws 0 (by decide) 0
      have hM2 := hM1.wa (63, 263, 8) (by decide) a v (by omega)
      rcases p1 with ⟨rfl, -⟩ | ⟨rfl, p1⟩
      · refine ⟨zup (zup s 0 0 0) 63 a v, zsc_c zsc_up, (zup_j (by decide)).trans zup_s, _, ?_, hM2, (zKp_i (fun z => z (Or.inl rfl))).tr (zKp_i (fun z => z (Or.inr (by decide)))), rfl, rfl⟩
        show zm232 (some (13, 0)) (zE a) h' = _
        have e5 : (zup s 0 0 0) 63 a = s 63 a := rfl
        by_cases e : s 63 a = 0
        · have : v = 1 := by omega
          subst this
          simp (discharger := omega) only [zm232, zm232_7, ↓zM_ob, p2, zb_s, ↓zlet_s, zE_0, z1, if_false, zMs0 hM1, zup_s, Int32.le_refl, if_true, ↓zMi63 hM1, zE_inj, e5, e]
          simp (discharger := omega) only [zm232_24, ↓zMa63 hM1]
          rw [zif_s (Or.inr trivial)]
          simp (discharger := omega) only [↓zlet_s, ↓zM_ob, zE_1]
          rw [zMi63 hM2 (by omega) (by omega), zup_s]
          rfl
        · have : v = 0 := by omega
          subst this
          simp (discharger := omega) only [zm232, zm232_7, ↓zM_ob, p2, zb_s, ↓zlet_s, zE_0, z1, if_false, zMs0 hM1, zup_s, Int32.le_refl, if_true, ↓zMi63 hM1, zE_inj, e5, e]
          simp (discharger := omega) only [zm232_24, ↓zMa63 hM1]
          rw [zif_s hv0]
          simp (discharger := omega) only [↓zlet_s, ↓zM_ob]
          rw [zMi63 hM2 (by omega) (by omega), zup_s]
          rfl
      · exact absurd c p1
  · refine zexZ (t := 1) hC ⟨wA, wK, wC, wD, wP, wR, wZ, wT, wG, wE, wM, wX⟩ (by omega) (by omega) ?_ (fun h' hM' => ?_)
    · simp (discharger := omega) only [zm118, zE_0, zE_1, zE_2, zE_3, zE_4, zE_5, zE_6, zE_7, zE_8, zE_9, zE_10, zE_11, zE_12, zE_13, zE_14, zE_neg, zc131, if_neg c, ↓zb_x]
    · obtain ⟨p, p1, p2⟩ := zp229 (h := h') (x := a) a1 a2
      have hM1 := hM'.ws 0 (by decide) 1
      rcases p1 with ⟨rfl, p1⟩ | ⟨rfl, -⟩
      · exact absurd p1 c
      · simp (discharger := omega) only [zm232, zm232_7, ↓zM_ob, p2, zE_0, zE_1, zE_2, zE_3, zE_4, zE_5, zE_6, zE_7, zE_8, zE_9, zE_10, zE_11, zE_12, zE_13, zE_14, zE_neg, zb_s, ↓zlet_s, if_true, zMs0 hM1, zup_s, z2, if_false]
theorem zr_expand (x y : Int32) : zPrV (fun h => zm94 (some (12, 0)) x y h) (fun h => zm204 (some (13, 0)) x y h) (fun t => if t = 1 then 0 else 1) 2 := by
  intro h s hC hM hW
  obtain ⟨a, rfl, a1, a2⟩ := zE_ex x
  obtain ⟨k, rfl, k1, k2⟩ := zE_ex y
  have z1 : ¬ zE 1 = zE 0 := by decide
  have z2 : ¬ zE 2 = zE 0 := by decide
  have z3 : ¬ zE 0 = zE 1 := by decide
  have cr := hC.1
  have cV := hC.2.2.2.2.2.2.2.2.1
  obtain ⟨wA, wK, wC, wD, wP, wR, wZ, wT, wG, wE, wM, wX⟩ := hW
  have hW0 : zWf s := ⟨wA, wK, wC, wD, wP, wR, wZ, wT, wG, wE, wM, wX⟩
  by_cases c : (0 ≤ a ∧ a ≤ 3) ∧ 0 ≤ k ∧ k ≤ 7
  · have w21 := (wD.2.2 a (by omega) (by omega)).1
    obtain ⟨b, b1, b2⟩ := zc133 (h := h) (x := s 21 a) (k := k) (by omega) (by omega) (by omega) (by omega)
    obtain ⟨d, d1, d2⟩ := zbt_m (x := s 21 a) (k := k) (by omega) (by omega) (by omega) (by omega)
    by_cases e : zbt (s 21 a) k
    · have : d = 1 := d1.u (zbo_1 e)
      subst this
      have : b = 1 := b1.u (zbo_1 e)
      subst this
      refine zexV (t := 2) hC hW0 (by omega) (by omega) ?_ (fun h' hM' => ?_)
      · simp (discharger := omega) only [zm94, zE_0, zE_1, zE_2, zE_3, zE_4, zE_5, zE_6, zE_7, zE_8, zE_9, zE_10, zE_11, zE_12, zE_13, zE_14, zE_neg, zc131, if_pos c.1, if_pos c.2, ↓zb_s, ↓zo_12, ↓zo_9, ↓zLVa cr cV, zCv3 cV, b2, z1, if_false]
        rfl
      · obtain ⟨p, p1, p2⟩ := zp202 (h := h') a1 a2 k1 k2
        have hM1 := hM'.ws 0 (by decide) 2
        rcases p1 with ⟨rfl, -⟩ | ⟨rfl, p1⟩
        · simp (discharger := omega) only [zm204, zm204_21, ↓zM_ob, p2, zE_0, zE_1, zE_2, zE_3, zE_4, zE_5, zE_6, zE_7, zE_8, zE_9, zE_10, zE_11, zE_12, zE_13, zE_14, zE_neg, zb_s, z1, if_false, ↓zMi21 hM', d2, if_true, ↓zlet_s, zMs0 hM1, zup_s, z2]
        · exact absurd c p1
    · have : d = 0 := d1.u (zbo_0 e)
      subst this
      have : b = 0 := b1.u (zbo_0 e)
      subst this
      obtain ⟨u, e1, e2, e3, -⟩ := zor_s (t := s 21 a) (i := k) (by omega) (by omega) (by omega) (by omega)
      have hW' : zWf (zup s 21 a u) := by
        refine ⟨wA, wK, wC, ⟨wD.1, wD.2.1, fun w w0 w1 => ?_⟩, wP, wR, wZ, wT, wG, wE, wM, wX⟩
        obtain ⟨q1, q2, q3, q4, q5⟩ := wD.2.2 w w0 w1
        refine ⟨?_, q2, q3, q4, q5⟩
        by_cases e : w = a
        · subst e; rw [zup_s]; omega
        · rw [zup_a e]; exact q1
      refine zokV (h1 := zsi h 9 a.toNat 3 (zE u)) (s' := zup s 21 a u) (by omega) hW' ?_ (zw_9_3 (x := u) hC c.1.1 (by omega)) (zKp_i (fun z => z (by unfold zpc1; decide))) (by show zce h ≤ _; omega) (by show zso h ≤ _; omega) (fun h' hM' => ?_)
      · simp (discharger := omega) only [zm94, zE_0, zE_1, zE_2, zE_3, zE_4, zE_5, zE_6, zE_7, zE_8, zE_9, zE_10, zE_11, zE_12, zE_13, zE_14, zE_neg, zc131, if_pos c.1, if_pos c.2, ↓zb_s, ↓zo_12, ↓zo_9, ↓zLVa cr cV, zCv3 cV, b2, if_true, e1, ↓zlet_s]
      · obtain ⟨p, p1, p2⟩ := zp202 (h := h') a1 a2 k1 k2
        have hM1 := hM'.ws 0 (by decide) 0
        rcases p1 with ⟨rfl, -⟩ | ⟨rfl, p1⟩
        · refine ⟨zup (zup s 0 0 0) 21 a u, zsc_c zsc_up, (zup_j (by decide)).trans zup_s, _, ?_, hM1.wa (21, 121, 4) (by decide) a u (by omega), (zKp_i (fun z => z (Or.inl rfl))).tr (zKp_i (fun z => z (Or.inr (by decide)))), rfl, rfl⟩
          show zm204 (some (13, 0)) (zE a) (zE k) h' = _
          have e5 : (zup s 0 0 0) 21 a = s 21 a := rfl
          simp (discharger := omega) only [zm204, zm204_21, ↓zM_ob, p2, zE_0, zE_1, zE_2, zE_3, zE_4, zE_5, zE_6, zE_7, zE_8, zE_9, zE_10, zE_11, zE_12, zE_13, zE_14, zE_neg, zb_s, z1, z3, if_false, ↓zMi21 hM', d2, if_true, ↓zlet_s, zMs0 hM1, zup_s, ↓zMi21 hM1, e5, ↓zMa21 hM1, e1]
        · exact absurd c p1
  · refine zexV (t := 1) hC hW0 (by omega) (by omega) ?_ (fun h' hM' => ?_)
    · by_cases c1 : 0 ≤ a ∧ a ≤ 3
      · have c2 : ¬ (0 ≤ k ∧ k ≤ 7) := fun z => c ⟨c1, z⟩
        simp (discharger := omega) only [zm94, zE_0, zE_1, zE_2, zE_3, zE_4, zE_5, zE_6, zE_7, zE_8, zE_9, zE_10, zE_11, zE_12, zE_13, zE_14, zE_neg, zc131, if_pos c1, if_neg c2, ↓zb_s, ↓zb_x, if_true]
      · simp (discharger := omega) only [zm94, zE_0, zE_1, zE_2, zE_3, zE_4, zE_5, zE_6, zE_7, zE_8, zE_9, zE_10, zE_11, zE_12, zE_13, zE_14, zE_neg, zc131, if_neg c1, ↓zb_x, if_true]
    · obtain ⟨p, p1, p2⟩ := zp202 (h := h') a1 a2 k1 k2
      have hM1 := hM'.ws 0 (by decide) 1
      rcases p1 with ⟨rfl, p1⟩ | ⟨rfl, -⟩
      · exact absurd p1 c
      · simp (discharger := omega) only [zm204, zm204_21, ↓zM_ob, p2, zE_0, zE_1, zE_2, zE_3, zE_4, zE_5, zE_6, zE_7, zE_8, zE_9, zE_10, zE_11, zE_12, zE_13, zE_14, zE_neg, zb_s, if_true, ↓zlet_s, zMs0 hM1, zup_s, z1, if_false]
