set_option maxRecDepth 16384
/-! freeze. -/
theorem zxo {p q r b : Int} (hp : 0 ≤ p ∧ p ≤ 1) (hq : 0 ≤ q ∧ q ≤ 1) (hr : 0 ≤ r ∧ r ≤ 1) (hb : 0 ≤ b ∧ b ≤ 2) : ∃ w, (zE (p + (2 * q + 4 * r)) ^^^ (zE 1 <<< (zE b &&& 31))) = zE w ∧ (0 ≤ w ∧ w ≤ 7) ∧ w = (if b = 0 then 1 - p else p) + (2 * (if b = 1 then 1 - q else q) + 4 * (if b = 2 then 1 - r else r)) ∧ (zbt w b ↔ (if b = 0 then 1 - p else if b = 1 then 1 - q else 1 - r) = 1) := by
  obtain rfl | rfl : p = 0 ∨ p = 1 := by omega
  all_goals obtain rfl | rfl : q = 0 ∨ q = 1 := by omega
  all_goals obtain rfl | rfl : r = 0 ∨ r = 1 := by omega
  all_goals obtain rfl | rfl | rfl : b = 0 ∨ b = 1 ∨ b = 2 := by omega
  all_goals exact ⟨_, by decide +kernel, by decide, rfl, by decide⟩
noncomputable def zfw (s : zS) (g : Int) : Int := s 56 (3 * g) + (2 * s 56 (3 * g + 1) + 4 * s 56 (3 * g + 2))
theorem zw_35 {h : zH} {s : zS} {a b v w : Int} (hC : zCl h s) (a0 : 0 ≤ a) (a1 : a < 3) (b0 : 0 ≤ b ∧ b ≤ 2) (e : w = zfw (zup s 56 (3 * a + b) v) a) : zCl (zsi h 35 0 a.toNat (zE w)) (zup s 56 (3 * a + b) v) := by
  obtain ⟨c1, c2, c3, c4, c5, c6, c7, c8, c9, c10, c11, c12, c13, c14⟩ := hC
  refine ⟨c1, c2, c3, c4, c5, c6, c7, c8, c9, c10, c11, ⟨c12.1, fun u u0 u1 => ?_, c12.2.2⟩, zCM_w c13 (zKp_i (by decide)) rfl rfl rfl rfl, c14⟩
  obtain ⟨p0, p1⟩ := c12.2.1 u u0 u1
  by_cases eu : u = a
  · subst eu
    exact ⟨zi_s.trans (congrArg zE e), p1⟩
  · refine ⟨(zi_j (by omega)).trans (p0.trans (congrArg zE ?_)), p1⟩
    rw [zup_a (show 3 * u ≠ 3 * a + b by omega), zup_a (show 3 * u + 1 ≠ 3 * a + b by omega), zup_a (show 3 * u + 2 ≠ 3 * a + b by omega)]
theorem zr_freeze (x y : Int32) : zPrZ (fun h => zm109 (some (12, 0)) x y h) (fun h => zm222 (some (13, 0)) x y h) (fun _ => 0) 1 := by
  intro h s hC hM hW
  obtain ⟨a, rfl, a1, a2⟩ := zE_ex x
  obtain ⟨b, rfl, b1, b2⟩ := zE_ex y
  have z1 : ¬ zE 1 = zE 0 := by decide
  have z2 : ¬ zE 1 ≤ zE 0 := by decide
  have cr := hC.1
  have hX := hC.2.2.2.2.2.2.2.2.2.2.2.1
  have hW0 := hW
  obtain ⟨wA, wK, wC, wD, wP, wR, wZ, wT, wG, wE, wM, wX⟩ := hW
  by_cases c : (0 ≤ a ∧ a ≤ 2) ∧ 0 ≤ b ∧ b ≤ 2
  · obtain ⟨c1, c2⟩ := c
    obtain ⟨y1, y2⟩ := hX.2.1 a (by omega) (by omega)
    have w0 := wZ.2.2.1 (3 * a) (by omega) (by omega)
    have w1 := wZ.2.2.1 (3 * a + 1) (by omega) (by omega)
    have w2 := wZ.2.2.1 (3 * a + 2) (by omega) (by omega)
    obtain ⟨w, e1, e2, e3, e4⟩ := zxo w0 w1 w2 c2
    have wb := wZ.2.2.1 (3 * a + b) (by omega) (by omega)
    obtain ⟨v, hv, hv1⟩ : ∃ v, v = 1 - s 56 (3 * a + b) ∧ (v = 0 ∨ v = 1) := ⟨_, rfl, by omega⟩
    have hv0 := zE_01 hv1
    have ev : (if b = 0 then 1 - s 56 (3 * a) else if b = 1 then 1 - s 56 (3 * a + 1) else 1 - s 56 (3 * a + 2)) = v := by
      obtain rfl | rfl | rfl : b = 0 ∨ b = 1 ∨ b = 2 := by omega
      · rw [if_pos rfl, hv, Int.add_zero]
      · rw [if_neg (by decide), if_pos rfl, hv]
      · rw [if_neg (by decide), if_neg (by decide), hv]
    rw [ev] at e4
    have ew : w = zfw (zup s 56 (3 * a + b) v) a := by
      rw [e3]
      unfold zfw
      obtain rfl | rfl | rfl : b = 0 ∨ b = 1 ∨ b = 2 := by omega
      · rw [Int.add_zero, zup_s, zup_a (show 3 * a + 1 ≠ 3 * a by omega), zup_a (show 3 * a + 2 ≠ 3 * a by omega), if_pos rfl, if_neg (by decide), if_neg (by decide), hv, Int.add_zero]
      · rw [zup_s, zup_a (show 3 * a ≠ 3 * a + 1 by omega), zup_a (show 3 * a + 2 ≠ 3 * a + 1 by omega), if_neg (by decide), if_pos rfl, if_neg (by decide), hv]
      · rw [zup_s, zup_a (show 3 * a ≠ 3 * a + 2 by omega), zup_a (show 3 * a + 1 ≠ 3 * a + 2 by omega), if_neg (by decide), if_neg (by decide), if_pos rfl, hv]
    have hC' := zw_35 (v := v) hC (by omega) (by omega) c2 ew
    have hW' : zWf (zup s 56 (3 * a + b) v) := by
      refine ⟨wA, wK, wC, wD, wP, wR, ⟨wZ.1, wZ.2.1, fun u u0 u1 => ?_, wZ.2.2.2⟩, wT, wG, wE, wM, wX⟩
      by_cases e : u = 3 * a + b
      · subst e; rw [zup_s]; omega
      · rw [zup_a e]; exact wZ.2.2.1 u u0 u1
    refine zokZ (v := v) (h1 := zsi h 35 0 a.toNat (zE w)) (by omega) hv1 hW' ?_ hC' (zKp_i (fun z => z (by unfold zpc1; decide))) (by show zce h ≤ _; omega) (by show zso h ≤ _; omega) (fun h' hM' => ?_)
    · have f2 : ∀ f : Int32 → zRs Int32, zri (zr h 12 0 8) (zE a) h f = f (zE (s 56 (3 * a) + (2 * s 56 (3 * a + 1) + 4 * s 56 (3 * a + 2)))) := fun f => zri_s (zCr8 cr) rfl hX.1.1 (by omega) (by omega) (by omega) y1
      have f3 : ∀ g : Nat → Nat → Nat → zRs Int32, zar 1 (zr h 12 0 8) (zE a) h g = g 35 0 a.toNat := fun g => zar_s (zCr8 cr) rfl hX.1.1 (by omega) (by omega) (by omega)
      have f4 : ∀ f : Int32 → zRs Int32, zri (zr (zsi h 35 0 a.toNat (zE w)) 12 0 8) (zE a) (zsi h 35 0 a.toNat (zE w)) f = f (zE w) := fun f => zri_s (zCr8 cr) rfl hX.1.1 (by omega) (by omega) (by omega) zi_s
      obtain ⟨g, g1, g2⟩ := zc133 (h := zsi h 35 0 a.toNat (zE w)) (x := w) (k := b) (by omega) (by omega) (by omega) (by omega)
      have hz : zbo v (v = 1) := by
        rcases hv1 with z | z
        · rw [z]; exact zbo_0 (by decide)
        · rw [z]; exact zbo_1 rfl
      have gv : g = v := (g1.cg e4).u hz
      subst gv
      simp (discharger := omega) only [zm109, zE_0, zE_1, zE_2, zE_3, zE_4, zE_5, zE_6, zE_7, zE_8, zE_9, zE_10, zE_11, zE_12, zE_13, zE_14, zE_neg, zc131, if_pos c1, if_pos c2, ↓zb_s, ↓zo_12, f2, f3, e1, ↓zlet_s, f4, g2]
      rw [← zE_0, ← zE_1]
      exact zif_s hv0
    · obtain ⟨p, p1, p2⟩ := zp141 (h := h') (x := a) a1 a2
      obtain ⟨q, q1, q2⟩ := zp139i (h := h') (x := b) (lo := 0) (hi := 2) b1 b2 (by omega) (by omega) (by omega) (by omega)
      have : p = 1 := p1.u (zbo_1 c1)
      subst this
      have : q = 1 := q1.u (zbo_1 c2)
      subst this
      have hM1 := hM'.ws 0 (by decide) 0
      have hM2 := hM1.wa (56, 256, 9) (by decide) (3 * a + b) v (by omega)
      refine ⟨zup (zup s 0 0 0) 56 (3 * a + b) v, zsc_c zsc_up, (zup_j (by decide)).trans zup_s, _, ?_, hM2, (zKp_i (fun z => z (Or.inl rfl))).tr (zKp_i (fun z => z (Or.inr (by decide)))), rfl, rfl⟩
      show zm222 (some (13, 0)) (zE a) (zE b) h' = _
      have e5 : (zup s 0 0 0) 56 (3 * a + b) = s 56 (3 * a + b) := rfl
      by_cases e : s 56 (3 * a + b) = 0
      · have : v = 1 := by omega
        subst this
        simp (discharger := omega) only [zm222, zm222_12, ↓zM_ob, p2, zE_0, zE_1, zE_2, zE_3, zE_4, zE_5, zE_6, zE_7, zE_8, zE_9, zE_10, zE_11, zE_12, zE_13, zE_14, zE_neg, q2, zb_s, ↓zlet_s, z1, if_false, zMs0 hM1, zup_s, Int.le_refl, Int32.le_refl, if_true, zE_mul, zE_add, ↓zMi56 hM1, e5, e]
        simp (discharger := omega) only [zm222_37, ↓zMa56 hM1]
        rw [zif_s (Or.inr zE_1.symm)]
        simp (discharger := omega) only [↓zlet_s, ↓zM_ob, zE_3, zE_mul, zE_add]
        rw [zMi56 hM2 (by omega) (by omega), zup_s]
        exact zif_s hv0
      · have : v = 0 := by omega
        subst this
        simp (discharger := omega) only [zm222, zm222_12, ↓zM_ob, p2, zE_0, zE_1, zE_2, zE_3, zE_4, zE_5, zE_6, zE_7, zE_8, zE_9, zE_10, zE_11, zE_12, zE_13, zE_14, zE_neg, q2, zb_s, ↓zlet_s, z1, if_false, zMs0 hM1, zup_s, Int.le_refl, Int32.le_refl, if_true, zE_mul, zE_add, ↓zMi56 hM1, zE_inj, e5, e]
        simp (discharger := omega) only [zm222_37, ↓zMa56 hM1]
        rw [zif_s hv0]
        simp (discharger := omega) only [↓zlet_s, ↓zM_ob, zE_3, zE_mul, zE_add]
        rw [zMi56 hM2 (by omega) (by omega), zup_s]
        exact zif_s hv0
  · refine zexZ (t := 1) hC hW0 (by omega) (by omega) ?_ (fun h' hM' => ?_)
    · show zm109 (some (12, 0)) (zE a) (zE b) h = some (.inr 0, zro h 1 6)
      by_cases c1 : 0 ≤ a ∧ a ≤ 2
      · have c2 : ¬ (0 ≤ b ∧ b ≤ 2) := fun z => c ⟨c1, z⟩
        simp (discharger := omega) only [zm109, zE_0, zE_1, zE_2, zE_3, zE_4, zE_5, zE_6, zE_7, zE_8, zE_9, zE_10, zE_11, zE_12, zE_13, zE_14, zE_neg, zc131, if_pos c1, if_neg c2, ↓zb_s, ↓zb_x]
      · simp (discharger := omega) only [zm109, zE_0, zE_1, zE_2, zE_3, zE_4, zE_5, zE_6, zE_7, zE_8, zE_9, zE_10, zE_11, zE_12, zE_13, zE_14, zE_neg, zc131, if_neg c1, ↓zb_x]
    · show zm222 (some (13, 0)) (zE a) (zE b) h' = _
      obtain ⟨p, p1, p2⟩ := zp141 (h := h') (x := a) a1 a2
      obtain ⟨q, q1, q2⟩ := zp139i (h := h') (x := b) (lo := 0) (hi := 2) b1 b2 (by omega) (by omega) (by omega) (by omega)
      have hM1 := hM'.ws 0 (by decide) 1
      rcases p1 with ⟨rfl, p1⟩ | ⟨rfl, -⟩
      · rcases q1 with ⟨rfl, q1⟩ | ⟨rfl, -⟩
        · exact absurd ⟨p1, q1⟩ c
        · simp (discharger := omega) only [zm222, zm222_12, ↓zM_ob, p2, zE_0, zE_1, zE_2, zE_3, zE_4, zE_5, zE_6, zE_7, zE_8, zE_9, zE_10, zE_11, zE_12, zE_13, zE_14, zE_neg, q2, zb_s, ↓zlet_s, z1, if_false, zMs0 hM1, zup_s, z2, if_true]
      · simp (discharger := omega) only [zm222, zm222_12, ↓zM_ob, p2, zE_0, zE_1, zE_2, zE_3, zE_4, zE_5, zE_6, zE_7, zE_8, zE_9, zE_10, zE_11, zE_12, zE_13, zE_14, zE_neg, zb_s, ↓zlet_s, if_true, zMs0 hM1, zup_s, z2, if_false]
