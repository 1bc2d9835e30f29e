set_option maxRecDepth 16384
/-! Calls that set one thing: both sides. -/
theorem zr_surge (x y : Int32) : zPrI (fun h => zm110 (some (12, 0)) x y h) (fun h => zm223 (some (13, 0)) x y h) (fun _ => 0) 1 := by
  intro h s hC hM hW
  obtain ⟨a, rfl, a1, a2⟩ := zE_ex x
  obtain ⟨b, rfl, b1, b2⟩ := zE_ex y
  have z1 : ¬ zE 1 = zE 0 := by decide
  have z2 : ¬ zE 1 ≤ zE 0 := by decide
  have cr := hC.1
  have hX := hC.2.2.2.2.2.2.2.2.2.2.2.1
  obtain ⟨wA, wK, wC, wD, wP, wR, wZ, wT, wG, wE, wM, wX⟩ := hW
  by_cases c : (0 ≤ a ∧ a ≤ 2) ∧ 0 ≤ b ∧ b ≤ 8
  · obtain ⟨y1, y2⟩ := hX.2.1 a (by omega) (by omega)
    refine zokI (v := s 57 a) (h1 := zsi h 36 0 a.toNat (zE b)) (s' := zup s 57 a b) (by omega) ⟨wA, wK, wC, wD, wP, wR, ⟨wZ.1, wZ.2.1, wZ.2.2.1, fun u u0 u1 => ?_⟩, wT, wG, wE, wM, wX⟩ ?_ (zw_36 hC (by omega) (by omega)) (zKp_i (fun z => z (by unfold zpc1; decide))) (by show zce h ≤ _; omega) (by show zso h ≤ _; omega) (fun h' hM' => ?_)
    · have := wZ.2.2.2 u u0 u1
      by_cases e : u = a
      · subst e; rw [zup_s]; exact c.2
      · rw [zup_a e]; exact this
    · have e2 : ∀ f : Int32 → zRs Int32, zri (zr h 12 0 9) (zE a) h f = f (zE (s 57 a)) := fun f => zri_s (zCr9 cr) rfl hX.1.2.1 (by omega) (by omega) (by omega) y2
      have e3 : ∀ g : Nat → Nat → Nat → zRs Int32, zar 1 (zr h 12 0 9) (zE a) h g = g 36 0 a.toNat := fun g => zar_s (zCr9 cr) rfl hX.1.2.1 (by omega) (by omega) (by omega)
      simp (discharger := omega) only [zm110, zE_0, zE_1, zE_2, zE_3, zE_4, zE_5, zE_6, zE_7, zE_8, zE_9, zE_10, zE_11, zE_12, zE_13, zE_14, zE_neg, zc131, if_pos c.1, if_pos c.2, ↓zb_s, ↓zo_12, e2, e3, ↓zlet_s]
    · obtain ⟨p, p1, p2⟩ := zp141 (h := h') (x := a) a1 a2
      obtain ⟨q, q1, q2⟩ := zp139i (h := h') (x := b) (lo := 0) (hi := 8) b1 b2 (by omega) (by omega) (by omega) (by omega)
      have hM1 := hM'.ws 0 (by decide) 0
      rcases p1 with ⟨rfl, -⟩ | ⟨rfl, p1⟩
      · rcases q1 with ⟨rfl, -⟩ | ⟨rfl, q1⟩
        · refine ⟨zup (zup s 0 0 0) 57 a b, zsc_c zsc_up, (zup_j (by decide)).trans zup_s, _, ?_, hM1.wa (57, 157, 3) (by decide) a b (by omega), (zKp_i (fun z => z (Or.inl rfl))).tr (zKp_i (fun z => z (Or.inr (by decide)))), rfl, rfl⟩
          show zm223 (some (13, 0)) (zE a) (zE b) h' = _
          simp (discharger := omega) only [zm223, zm223_12, ↓zM_ob, p2, zE_0, zE_1, zE_2, zE_3, zE_4, zE_5, zE_6, zE_7, zE_8, zE_9, zE_10, zE_11, zE_12, zE_13, zE_14, zE_neg, q2, zb_s, ↓zlet_s, z1, if_false, zMs0 hM1, zup_s, Int32.le_refl, if_true, ↓zMi57 hM1, ↓zMa57 hM1]
          rfl
        · exact absurd c.2 q1
      · exact absurd c.1 p1
  · refine zexI (t := 1) hC ⟨wA, wK, wC, wD, wP, wR, wZ, wT, wG, wE, wM, wX⟩ (by omega) (by omega) ?_ (fun h' hM' => ?_)
    · by_cases c1 : 0 ≤ a ∧ a ≤ 2
      · have c2 : ¬ (0 ≤ b ∧ b ≤ 8) := fun z => c ⟨c1, z⟩
        simp (discharger := omega) only [zm110, zE_0, zE_1, zE_2, zE_3, zE_4, zE_5, zE_6, zE_7, zE_8, zE_9, zE_10, zE_11, zE_12, zE_13, zE_14, zE_neg, zc131, if_pos c1, if_neg c2, ↓zb_s, ↓zb_x]
      · simp (discharger := omega) only [zm110, zE_0, zE_1, zE_2, zE_3, zE_4, zE_5, zE_6, zE_7, zE_8, zE_9, zE_10, zE_11, zE_12, zE_13, zE_14, zE_neg, zc131, if_neg c1, ↓zb_x]
    · obtain ⟨p, p1, p2⟩ := zp141 (h := h') (x := a) a1 a2
      obtain ⟨q, q1, q2⟩ := zp139i (h := h') (x := b) (lo := 0) (hi := 8) b1 b2 (by omega) (by omega) (by omega) (by omega)
      have hM1 := hM'.ws 0 (by decide) 1
      rcases p1 with ⟨rfl, p1⟩ | ⟨rfl, -⟩
      · rcases q1 with ⟨rfl, q1⟩ | ⟨rfl, -⟩
        · exact absurd ⟨p1, q1⟩ c
        · simp (discharger := omega) only [zm223, zm223_12, ↓zM_ob, p2, zE_0, zE_1, zE_2, zE_3, zE_4, zE_5, zE_6, zE_7, zE_8, zE_9, zE_10, zE_11, zE_12, zE_13, zE_14, zE_neg, q2, zb_s, ↓zlet_s, z1, if_false, zMs0 hM1, zup_s, z2, if_true]
      · simp (discharger := omega) only [zm223, zm223_12, ↓zM_ob, p2, zE_0, zE_1, zE_2, zE_3, zE_4, zE_5, zE_6, zE_7, zE_8, zE_9, zE_10, zE_11, zE_12, zE_13, zE_14, zE_neg, zb_s, ↓zlet_s, if_true, zMs0 hM1, zup_s, z2, if_false]
theorem zr_setPlan (x y : Int32) : zPrV (fun h => zm119 (some (12, 0)) x y h) (fun h => zm233 (some (13, 0)) x y h) (fun _ => 0) 1 := by
  intro h s hC hM hW
  obtain ⟨a, rfl, a1, a2⟩ := zE_ex x
  obtain ⟨b, rfl, b1, b2⟩ := zE_ex y
  have z1 : ¬ zE 1 = zE 0 := by decide
  have cr := hC.1
  have hX := hC.2.2.2.2.2.2.2.2.2.2.2.1
  obtain ⟨wA, wK, wC, wD, wP, wR, wZ, wT, wG, wE, wM, wX⟩ := hW
  by_cases c : (0 ≤ a ∧ a ≤ 199) ∧ 0 ≤ b ∧ b ≤ 6
  · refine zokV (h1 := zsi h 37 0 a.toNat (zE b)) (s' := zup s 70 a b) (by omega) ⟨wA, wK, wC, wD, wP, wR, wZ, wT, ⟨wG.1, fun u u0 u1 => ?_⟩, wE, wM, wX⟩ ?_ (zw_37 hC (by omega) (by omega)) (zKp_i (fun z => z (by unfold zpc1; decide))) (by show zce h ≤ _; omega) (by show zso h ≤ _; omega) (fun h' hM' => ?_)
    · have := wG.2 u u0 u1
      by_cases e : u = a
      · subst e; rw [zup_s]; exact c.2
      · rw [zup_a e]; exact this
    · have e3 : ∀ g : Nat → Nat → Nat → zRs Unit, zar 1 (zr h 12 0 10) (zE a) h g = g 37 0 a.toNat := fun g => zar_s (zCr10 cr) rfl hX.1.2.2 (by omega) (by omega) (by omega)
      simp (discharger := omega) only [zm119, zE_0, zE_1, zE_2, zE_3, zE_4, zE_5, zE_6, zE_7, zE_8, zE_9, zE_10, zE_11, zE_12, zE_13, zE_14, zE_neg, zE_199, zc131, if_pos c.1, if_pos c.2, ↓zb_s, ↓zo_12, e3, ↓zlet_s]
    · obtain ⟨p, p1, p2⟩ := zp139i (h := h') (x := a) (lo := 0) (hi := 199) a1 a2 (by omega) (by omega) (by omega) (by omega)
      obtain ⟨q, q1, q2⟩ := zp139i (h := h') (x := b) (lo := 0) (hi := 6) b1 b2 (by omega) (by omega) (by omega) (by omega)
      have hM1 := hM'.ws 0 (by decide) 0
      rcases p1 with ⟨rfl, -⟩ | ⟨rfl, p1⟩
      · rcases q1 with ⟨rfl, -⟩ | ⟨rfl, q1⟩
        · refine ⟨zup (zup s 0 0 0) 70 a b, zsc_c zsc_up, (zup_j (by decide)).trans zup_s, _, ?_, hM1.wa (70, 170, 200) (by decide) a b (by omega), (zKp_i (fun z => z (Or.inl rfl))).tr (zKp_i (fun z => z (Or.inr (by decide)))), rfl, rfl⟩
          show zm233 (some (13, 0)) (zE a) (zE b) h' = _
          simp (discharger := omega) only [zm233, zm233_14, ↓zM_ob, zE_0, zE_1, zE_2, zE_3, zE_4, zE_5, zE_6, zE_7, zE_8, zE_9, zE_10, zE_11, zE_12, zE_13, zE_14, zE_neg, zE_199, p2, q2, zb_s, ↓zlet_s, z1, if_false, zMs0 hM1, zup_s, if_true, ↓zMa70 hM1]
        · exact absurd c.2 q1
      · exact absurd c.1 p1
  · refine zexV (t := 1) hC ⟨wA, wK, wC, wD, wP, wR, wZ, wT, wG, wE, wM, wX⟩ (by omega) (by omega) ?_ (fun h' hM' => ?_)
    · by_cases c1 : 0 ≤ a ∧ a ≤ 199
      · have c2 : ¬ (0 ≤ b ∧ b ≤ 6) := fun z => c ⟨c1, z⟩
        simp (discharger := omega) only [zm119, zE_0, zE_1, zE_2, zE_3, zE_4, zE_5, zE_6, zE_7, zE_8, zE_9, zE_10, zE_11, zE_12, zE_13, zE_14, zE_neg, zE_199, zc131, if_pos c1, if_neg c2, ↓zb_s, ↓zb_x]
      · simp (discharger := omega) only [zm119, zE_0, zE_1, zE_2, zE_3, zE_4, zE_5, zE_6, zE_7, zE_8, zE_9, zE_10, zE_11, zE_12, zE_13, zE_14, zE_neg, zE_199, zc131, if_neg c1, ↓zb_x]
    · obtain ⟨p, p1, p2⟩ := zp139i (h := h') (x := a) (lo := 0) (hi := 199) a1 a2 (by omega) (by omega) (by omega) (by omega)
      obtain ⟨q, q1, q2⟩ := zp139i (h := h') (x := b) (lo := 0) (hi := 6) b1 b2 (by omega) (by omega) (by omega) (by omega)
      have hM1 := hM'.ws 0 (by decide) 1
      rcases p1 with ⟨rfl, p1⟩ | ⟨rfl, -⟩
      · rcases q1 with ⟨rfl, q1⟩ | ⟨rfl, -⟩
        · exact absurd ⟨p1, q1⟩ c
        · simp (discharger := omega) only [zm233, zm233_14, ↓zM_ob, zE_0, zE_1, zE_2, zE_3, zE_4, zE_5, zE_6, zE_7, zE_8, zE_9, zE_10, zE_11, zE_12, zE_13, zE_14, zE_neg, zE_199, p2, q2, zb_s, ↓zlet_s, z1, if_false, zMs0 hM1, zup_s, if_true]
      · simp (discharger := omega) only [zm233, zm233_14, ↓zM_ob, zE_0, zE_1, zE_2, zE_3, zE_4, zE_5, zE_6, zE_7, zE_8, zE_9, zE_10, zE_11, zE_12, zE_13, zE_14, zE_neg, zE_199, p2, zb_s, ↓zlet_s, if_true, zMs0 hM1, zup_s, z1, if_false]
