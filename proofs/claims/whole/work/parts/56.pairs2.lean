set_option maxRecDepth 16384
/-! The calls that read one thing: both sides (printed by wip/whole/gen/pairs.py). -/
theorem zc132 {h : zH} {s : zS} (hR : zCr h) (hV : zCV h s) {a b : Int} (a1 : -2147483648 ≤ a) (a2 : a < 2147483648) (b1 : -2147483648 ≤ b) (b2 : b < 2147483648) : ((0 ≤ a ∧ a ≤ 3) ∧ 0 ≤ b ∧ b ≤ 2 → zm132 (some (12, 0)) (zE a) (zE b) h = some (.inl (some (10, (3 * a + b).toNat)), h)) ∧ (¬ ((0 ≤ a ∧ a ≤ 3) ∧ 0 ≤ b ∧ b ≤ 2) → zm132 (some (12, 0)) (zE a) (zE b) h = some (.inr 0, zro h 1 6)) := by
  constructor
  · rintro ⟨c, d⟩
    simp (discharger := omega) only [zm132, zE_0, zE_1, zE_2, zE_3, zE_4, zE_5, zE_6, zE_7, zE_8, zE_9, zE_10, zE_11, zE_12, zE_13, zE_14, zE_neg, zc131, if_pos c, if_pos d, ↓zb_s, ↓zo_12, ↓zo_9, ↓zLVa hR hV, ↓zLKa hV]
  · intro c
    by_cases c1 : 0 ≤ a ∧ a ≤ 3
    · have c2 : ¬ (0 ≤ b ∧ b ≤ 2) := fun z => c ⟨c1, z⟩
      simp (discharger := omega) only [zm132, zE_0, zE_1, zE_2, zE_3, zE_4, zE_5, zE_6, zE_7, zE_8, zE_9, zE_10, zE_11, zE_12, zE_13, zE_14, zE_neg, zc131, if_pos c1, if_neg c2, ↓zb_s, ↓zb_x]
    · simp (discharger := omega) only [zm132, zE_0, zE_1, zE_2, zE_3, zE_4, zE_5, zE_6, zE_7, zE_8, zE_9, zE_10, zE_11, zE_12, zE_13, zE_14, zE_neg, zc131, if_neg c1, ↓zb_x]
theorem zc134 {h : zH} {s : zS} (hC : zCA h s) {a : Int} (a1 : -1 ≤ a) (a2 : a < s 2 0) : zm134 (zrf 0 a) h = some (.inl (zE a), h) := by
  by_cases c : a = -1
  · subst c
    rfl
  · have n : ¬ (some (0, a.toNat) : zq) = none := fun z => by cases z
    rw [zrf_s (by omega), zm134, if_neg n, zo_0, zCa0 hC (by omega) a2]
theorem zp191 {h : zH} {s : zS} (hM : zMd h s) {a b : Int} (a1 : -2147483648 ≤ a) (a2 : a < 2147483648) (b1 : -2147483648 ≤ b) (b2 : b < 2147483648) : ((0 ≤ a ∧ a ≤ 3) ∧ 0 ≤ b ∧ b ≤ 2 → zm191 (some (13, 0)) (zE a) (zE b) h = some (.inl (zE 1), zsi h 13 0 0 (zE 0))) ∧ (¬ ((0 ≤ a ∧ a ≤ 3) ∧ 0 ≤ b ∧ b ≤ 2) → zm191 (some (13, 0)) (zE a) (zE b) h = some (.inl (zE 0), zsi h 13 0 0 (zE 1))) := by
  obtain ⟨x, x1, x2⟩ := zp140 (h := h) (x := a) a1 a2
  obtain ⟨y, y1, y2⟩ := zp141 (h := h) (x := b) b1 b2
  have z1 : ¬ zE 1 = zE 0 := by decide
  have hM0 := hM.ws 0 (by decide) 0
  have hM1 := hM.ws 0 (by decide) 1
  rcases x1 with ⟨rfl, x1⟩ | ⟨rfl, x1⟩
  · rcases y1 with ⟨rfl, y1⟩ | ⟨rfl, y1⟩
    · refine ⟨fun _ => ?_, fun z => absurd ⟨x1, y1⟩ z⟩
      simp only [zm191, zm191_10, x2, y2, ↓zb_s, ↓zM_ob, ↓zlet_s, zE_0, zE_1, zE_2, zE_3, zE_4, zE_5, zE_6, zE_7, zE_8, zE_9, zE_10, zE_11, zE_12, zE_13, zE_14, zE_neg, z1, if_true, if_false, zMs0 hM0, zup_s]
    · refine ⟨fun z => absurd z.2 y1, fun z => ?_⟩
      simp only [zm191, zm191_10, x2, y2, ↓zb_s, ↓zM_ob, ↓zlet_s, zE_0, zE_1, zE_2, zE_3, zE_4, zE_5, zE_6, zE_7, zE_8, zE_9, zE_10, zE_11, zE_12, zE_13, zE_14, zE_neg, z1, if_true, if_false, zMs0 hM1, zup_s]
  · refine ⟨fun z => absurd z.1 x1, fun z => ?_⟩
    simp only [zm191, zm191_10, x2, ↓zb_s, ↓zM_ob, ↓zlet_s, zE_0, zE_1, zE_2, zE_3, zE_4, zE_5, zE_6, zE_7, zE_8, zE_9, zE_10, zE_11, zE_12, zE_13, zE_14, zE_neg, z1, if_true, if_false, zMs0 hM1, zup_s]
theorem zp202 {h : zH} {a k : Int} (a1 : -2147483648 ≤ a) (a2 : a < 2147483648) (k1 : -2147483648 ≤ k) (k2 : k < 2147483648) : ∃ b, zbo b ((0 ≤ a ∧ a ≤ 3) ∧ 0 ≤ k ∧ k ≤ 7) ∧ zm202 (some (13, 0)) (zE a) (zE k) h = some (.inl (zE b), h) := by
  obtain ⟨x, x1, x2⟩ := zp140 (h := h) (x := a) a1 a2
  obtain ⟨y, y1, y2⟩ := zp139i (h := h) (x := k) (lo := 0) (hi := 7) k1 k2 (by omega) (by omega) (by omega) (by omega)
  have z1 : ¬ zE 1 = zE 0 := by decide
  rcases x1 with ⟨rfl, x1⟩ | ⟨rfl, x1⟩
  · rcases y1 with ⟨rfl, y1⟩ | ⟨rfl, y1⟩
    · exact ⟨1, zbo_1 ⟨x1, y1⟩, by simp only [zm202, zE_0, zE_1, zE_2, zE_3, zE_4, zE_5, zE_6, zE_7, zE_8, zE_9, zE_10, zE_11, zE_12, zE_13, zE_14, zE_neg, x2, y2, ↓zb_s, z1, if_false]⟩
    · exact ⟨0, zbo_0 (fun z => y1 z.2), by simp only [zm202, zE_0, zE_1, zE_2, zE_3, zE_4, zE_5, zE_6, zE_7, zE_8, zE_9, zE_10, zE_11, zE_12, zE_13, zE_14, zE_neg, x2, y2, ↓zb_s, z1, if_true, if_false]⟩
  · exact ⟨0, zbo_0 (fun z => x1 z.1), by simp only [zm202, zE_0, zE_1, zE_2, zE_3, zE_4, zE_5, zE_6, zE_7, zE_8, zE_9, zE_10, zE_11, zE_12, zE_13, zE_14, zE_neg, x2, ↓zb_s, if_true]⟩
theorem zp226 {h : zH} {s : zS} (hM : zMd h s) (hA : zWt s) {x : Int} (h1 : -2147483648 ≤ x) (h2 : x < 2147483648) : ∃ b, zbo b (0 ≤ x ∧ x < s 58 0) ∧ zm226 (some (13, 0)) (zE x) h = some (.inl (zE b), h) := by
  have := hA.1
  obtain ⟨b, e1, e2⟩ := zp139i (h := h) (lo := 0) (hi := s 58 0 - 1) h1 h2 (by omega) (by omega) (by omega) (by omega)
  refine ⟨b, e1.cg (by omega), ?_⟩
  rw [zm226, zM_ob, zMs58 hM, zE_0, zE_1, zE_sub, e2, zb_s]
  exact zif_s e1.e
theorem zr_state (x : Int32) : zPrI (fun h => zm61 (some (12, 0)) x h) (fun h => zm162 (some (13, 0)) x h) (fun _ => 2) 1 := by
  refine zPrI_ro fun h s hC hM hW => ?_
  obtain ⟨a, rfl, a1, a2⟩ := zE_ex x
  obtain ⟨cr, cs, cA, cP, cR, cZ, cT, cE, cV, cK, cG, cX, cM, cN⟩ := hC
  obtain ⟨wA, wK, wC, wD, wP, wR, wZ, wT, wG, wE, wM, wX⟩ := hW
  have hnA := wA.1
  have hnR := wR.1
  have hnT := wT.1
  have z1 : ¬ zE 1 = zE 0 := by decide
  have z2 : ¬ zE 1 ≤ zE 0 := by decide
  by_cases c : 0 ≤ a ∧ a < s 30 0
  · refine ⟨0, s 33 a, s 33 a, by omega, by omega, Or.inl ⟨rfl, ?_⟩, fun _ => rfl, fun h' hM' => ?_⟩
    · simp (discharger := omega) only [zm61, ↓zo_12, ↓zLRz cr cR, zc130, if_pos c, ↓zb_s, ↓zLRg cr cR, ↓zo_5, zCr2_ cR]
    · obtain ⟨b, b1, b2⟩ := zp143 hM' wR (x := a) a1 a2
      have hM1 := hM'.ws 0 (by decide) 0
      rcases b1 with ⟨rfl, -⟩ | ⟨rfl, b1⟩
      · simp (discharger := omega) only [zm162, zm162_8, ↓zM_ob, b2, zb_s, ↓zlet_s, zE_0, z1, if_false, zMs0 hM1, zup_s, Int32.le_refl, if_true]
        rw [zMi33 hM1 c.1 (by omega)]
        rfl
      · exact absurd c b1
  · refine ⟨1, 0, 0, by omega, by omega, Or.inr ⟨by omega, 1, by omega, ?_⟩, fun _ => rfl, fun h' hM' => ?_⟩
    · simp (discharger := omega) only [zm61, ↓zo_12, ↓zLRz cr cR, zc130, if_neg c, ↓zb_x]
    · obtain ⟨b, b1, b2⟩ := zp143 hM' wR (x := a) a1 a2
      have hM1 := hM'.ws 0 (by decide) 1
      rcases b1 with ⟨rfl, b1⟩ | ⟨rfl, -⟩
      · exact absurd b1 c
      · simp (discharger := omega) only [zm162, zm162_8, ↓zM_ob, b2, zb_s, ↓zlet_s, zE_0, zE_1, if_true, zMs0 hM1, zup_s, z2, if_false]
theorem zr_at (x : Int32) : zPrI (fun h => zm62 (some (12, 0)) x h) (fun h => zm163 (some (13, 0)) x h) (fun _ => 2) 1 := by
  refine zPrI_ro fun h s hC hM hW => ?_
  obtain ⟨a, rfl, a1, a2⟩ := zE_ex x
  obtain ⟨cr, cs, cA, cP, cR, cZ, cT, cE, cV, cK, cG, cX, cM, cN⟩ := hC
  obtain ⟨wA, wK, wC, wD, wP, wR, wZ, wT, wG, wE, wM, wX⟩ := hW
  have hnA := wA.1
  have hnR := wR.1
  have hnT := wT.1
  have z1 : ¬ zE 1 = zE 0 := by decide
  have z2 : ¬ zE 1 ≤ zE 0 := by decide
  by_cases c : 0 ≤ a ∧ a < s 30 0
  · refine ⟨0, s 34 a, s 34 a, by omega, by omega, Or.inl ⟨rfl, ?_⟩, fun _ => rfl, fun h' hM' => ?_⟩
    · simp (discharger := omega) only [zm62, ↓zo_12, ↓zLRz cr cR, zc130, if_pos c, ↓zb_s, ↓zLRg cr cR, ↓zo_5, zCr3_ cR]
    · obtain ⟨b, b1, b2⟩ := zp143 hM' wR (x := a) a1 a2
      have hM1 := hM'.ws 0 (by decide) 0
      rcases b1 with ⟨rfl, -⟩ | ⟨rfl, b1⟩
      · simp (discharger := omega) only [zm163, zm163_8, ↓zM_ob, b2, zb_s, ↓zlet_s, zE_0, z1, if_false, zMs0 hM1, zup_s, Int32.le_refl, if_true]
        rw [zMi34 hM1 c.1 (by omega)]
        rfl
      · exact absurd c b1
  · refine ⟨1, 0, 0, by omega, by omega, Or.inr ⟨by omega, 1, by omega, ?_⟩, fun _ => rfl, fun h' hM' => ?_⟩
    · simp (discharger := omega) only [zm62, ↓zo_12, ↓zLRz cr cR, zc130, if_neg c, ↓zb_x]
    · obtain ⟨b, b1, b2⟩ := zp143 hM' wR (x := a) a1 a2
      have hM1 := hM'.ws 0 (by decide) 1
      rcases b1 with ⟨rfl, b1⟩ | ⟨rfl, -⟩
      · exact absurd b1 c
      · simp (discharger := omega) only [zm163, zm163_8, ↓zM_ob, b2, zb_s, ↓zlet_s, zE_0, zE_1, if_true, zMs0 hM1, zup_s, z2, if_false]
theorem zr_taken (x : Int32) : zPrI (fun h => zm114 (some (12, 0)) x h) (fun h => zm228 (some (13, 0)) x h) (fun _ => 2) 1 := by
  refine zPrI_ro fun h s hC hM hW => ?_
  obtain ⟨a, rfl, a1, a2⟩ := zE_ex x
  obtain ⟨cr, cs, cA, cP, cR, cZ, cT, cE, cV, cK, cG, cX, cM, cN⟩ := hC
  obtain ⟨wA, wK, wC, wD, wP, wR, wZ, wT, wG, wE, wM, wX⟩ := hW
  have hnA := wA.1
  have hnR := wR.1
  have hnT := wT.1
  have z1 : ¬ zE 1 = zE 0 := by decide
  have z2 : ¬ zE 1 ≤ zE 0 := by decide
  by_cases c : 0 ≤ a ∧ a < s 58 0
  · refine ⟨0, s 60 a, s 60 a, by omega, by omega, Or.inl ⟨rfl, ?_⟩, fun _ => rfl, fun h' hM' => ?_⟩
    · simp (discharger := omega) only [zm114, ↓zo_12, ↓zLTz cr cT, zc130, if_pos c, ↓zb_s, ↓zLTg cr cT, ↓zo_11, zCt1 cT]
    · obtain ⟨b, b1, b2⟩ := zp226 hM' wT (x := a) a1 a2
      have hM1 := hM'.ws 0 (by decide) 0
      rcases b1 with ⟨rfl, -⟩ | ⟨rfl, b1⟩
      · simp (discharger := omega) only [zm228, zm228_8, ↓zM_ob, b2, zb_s, ↓zlet_s, zE_0, z1, if_false, zMs0 hM1, zup_s, Int32.le_refl, if_true]
        rw [zMi60 hM1 c.1 (by omega)]
        rfl
      · exact absurd c b1
  · refine ⟨1, 0, 0, by omega, by omega, Or.inr ⟨by omega, 1, by omega, ?_⟩, fun _ => rfl, fun h' hM' => ?_⟩
    · simp (discharger := omega) only [zm114, ↓zo_12, ↓zLTz cr cT, zc130, if_neg c, ↓zb_x]
    · obtain ⟨b, b1, b2⟩ := zp226 hM' wT (x := a) a1 a2
      have hM1 := hM'.ws 0 (by decide) 1
      rcases b1 with ⟨rfl, b1⟩ | ⟨rfl, -⟩
      · exact absurd b1 c
      · simp (discharger := omega) only [zm228, zm228_8, ↓zM_ob, b2, zb_s, ↓zlet_s, zE_0, zE_1, if_true, zMs0 hM1, zup_s, z2, if_false]
theorem zr_stable (x y : Int32) : zPrI (fun h => zm85 (some (12, 0)) x y h) (fun h => zm192 (some (13, 0)) x y h) (fun _ => 0) 1 := by
  refine zPrI_ro fun h s hC hM hW => ?_
  obtain ⟨a, rfl, a1, a2⟩ := zE_ex x
  obtain ⟨b, rfl, b1, b2⟩ := zE_ex y
  obtain ⟨cr, cs, cA, cP, cR, cZ, cT, cE, cV, cK, cG, cX, cM, cN⟩ := hC
  obtain ⟨wA, wK, wC, wD, wP, wR, wZ, wT, wG, wE, wM, wX⟩ := hW
  have hnA := wA.1
  have hnR := wR.1
  have hnT := wT.1
  have z1 : ¬ zE 1 = zE 0 := by decide
  have z2 : ¬ zE 1 ≤ zE 0 := by decide
  obtain ⟨p1, p2⟩ := zc132 cr cV a1 a2 b1 b2
  by_cases c : (0 ≤ a ∧ a ≤ 3) ∧ 0 ≤ b ∧ b ≤ 2
  · obtain ⟨k1, k2, k3, -⟩ := wK (3 * a + b) (by omega) (by omega)
    refine ⟨0, s 12 (3 * a + b), s 12 (3 * a + b), by omega, by omega, Or.inl ⟨rfl, ?_⟩, fun _ => rfl, fun h' hM' => ?_⟩
    · simp (discharger := omega) only [zm85, ↓zo_12, p1 c, ↓zb_s, ↓zo_10, zCk0 cK, zc134 cA]
    · have hM1 := hM'.ws 0 (by decide) 0
      simp (discharger := omega) only [zm192, ↓zM_ob, (zp191 hM' a1 a2 b1 b2).1 c, ↓zb_s, zE_0, z1, if_false]
      rw [zri_m3, zMi12 hM1 (by omega) (by omega)]
      rfl
  · refine ⟨1, 0, 0, by omega, by omega, Or.inr ⟨by omega, 1, by omega, ?_⟩, fun _ => rfl, fun h' hM' => ?_⟩
    · simp (discharger := omega) only [zm85, ↓zo_12, p2 c, ↓zb_x]
    · simp (discharger := omega) only [zm192, ↓zM_ob, (zp191 hM' a1 a2 b1 b2).2 c, ↓zb_s, zE_0, if_true]
theorem zr_candidate (x y : Int32) : zPrI (fun h => zm86 (some (12, 0)) x y h) (fun h => zm193 (some (13, 0)) x y h) (fun _ => 0) 1 := by
  refine zPrI_ro fun h s hC hM hW => ?_
  obtain ⟨a, rfl, a1, a2⟩ := zE_ex x
  obtain ⟨b, rfl, b1, b2⟩ := zE_ex y
  obtain ⟨cr, cs, cA, cP, cR, cZ, cT, cE, cV, cK, cG, cX, cM, cN⟩ := hC
  obtain ⟨wA, wK, wC, wD, wP, wR, wZ, wT, wG, wE, wM, wX⟩ := hW
  have hnA := wA.1
  have hnR := wR.1
  have hnT := wT.1
  have z1 : ¬ zE 1 = zE 0 := by decide
  have z2 : ¬ zE 1 ≤ zE 0 := by decide
  obtain ⟨p1, p2⟩ := zc132 cr cV a1 a2 b1 b2
  by_cases c : (0 ≤ a ∧ a ≤ 3) ∧ 0 ≤ b ∧ b ≤ 2
  · obtain ⟨k1, k2, k3, -⟩ := wK (3 * a + b) (by omega) (by omega)
    refine ⟨0, s 13 (3 * a + b), s 13 (3 * a + b), by omega, by omega, Or.inl ⟨rfl, ?_⟩, fun _ => rfl, fun h' hM' => ?_⟩
    · simp (discharger := omega) only [zm86, ↓zo_12, p1 c, ↓zb_s, ↓zo_10, zCk1 cK, zc134 cA]
    · have hM1 := hM'.ws 0 (by decide) 0
      simp (discharger := omega) only [zm193, ↓zM_ob, (zp191 hM' a1 a2 b1 b2).1 c, ↓zb_s, zE_0, z1, if_false]
      rw [zri_m3, zMi13 hM1 (by omega) (by omega)]
      rfl
  · refine ⟨1, 0, 0, by omega, by omega, Or.inr ⟨by omega, 1, by omega, ?_⟩, fun _ => rfl, fun h' hM' => ?_⟩
    · simp (discharger := omega) only [zm86, ↓zo_12, p2 c, ↓zb_x]
    · simp (discharger := omega) only [zm193, ↓zM_ob, (zp191 hM' a1 a2 b1 b2).2 c, ↓zb_s, zE_0, if_true]
theorem zr_share (x y : Int32) : zPrI (fun h => zm87 (some (12, 0)) x y h) (fun h => zm194 (some (13, 0)) x y h) (fun _ => 0) 1 := by
  refine zPrI_ro fun h s hC hM hW => ?_
  obtain ⟨a, rfl, a1, a2⟩ := zE_ex x
  obtain ⟨b, rfl, b1, b2⟩ := zE_ex y
  obtain ⟨cr, cs, cA, cP, cR, cZ, cT, cE, cV, cK, cG, cX, cM, cN⟩ := hC
  obtain ⟨wA, wK, wC, wD, wP, wR, wZ, wT, wG, wE, wM, wX⟩ := hW
  have hnA := wA.1
  have hnR := wR.1
  have hnT := wT.1
  have z1 : ¬ zE 1 = zE 0 := by decide
  have z2 : ¬ zE 1 ≤ zE 0 := by decide
  obtain ⟨p1, p2⟩ := zc132 cr cV a1 a2 b1 b2
  by_cases c : (0 ≤ a ∧ a ≤ 3) ∧ 0 ≤ b ∧ b ≤ 2
  · obtain ⟨k1, k2, k3, -⟩ := wK (3 * a + b) (by omega) (by omega)
    refine ⟨0, s 14 (3 * a + b), s 14 (3 * a + b), by omega, by omega, Or.inl ⟨rfl, ?_⟩, fun _ => rfl, fun h' hM' => ?_⟩
    · simp (discharger := omega) only [zm87, ↓zo_12, p1 c, ↓zb_s, ↓zo_10, zCk2 cK]
    · have hM1 := hM'.ws 0 (by decide) 0
      simp (discharger := omega) only [zm194, ↓zM_ob, (zp191 hM' a1 a2 b1 b2).1 c, ↓zb_s, zE_0, z1, if_false]
      rw [zri_m3, zMi14 hM1 (by omega) (by omega)]
      rfl
  · refine ⟨1, 0, 0, by omega, by omega, Or.inr ⟨by omega, 1, by omega, ?_⟩, fun _ => rfl, fun h' hM' => ?_⟩
    · simp (discharger := omega) only [zm87, ↓zo_12, p2 c, ↓zb_x]
    · simp (discharger := omega) only [zm194, ↓zM_ob, (zp191 hM' a1 a2 b1 b2).2 c, ↓zb_s, zE_0, if_true]
theorem zr_units (x y : Int32) : zPrI (fun h => zm100 (some (12, 0)) x y h) (fun h => zm208 (some (13, 0)) x y h) (fun _ => 0) 1 := by
  refine zPrI_ro fun h s hC hM hW => ?_
  obtain ⟨a, rfl, a1, a2⟩ := zE_ex x
  obtain ⟨b, rfl, b1, b2⟩ := zE_ex y
  obtain ⟨cr, cs, cA, cP, cR, cZ, cT, cE, cV, cK, cG, cX, cM, cN⟩ := hC
  obtain ⟨wA, wK, wC, wD, wP, wR, wZ, wT, wG, wE, wM, wX⟩ := hW
  have hnA := wA.1
  have hnR := wR.1
  have hnT := wT.1
  have z1 : ¬ zE 1 = zE 0 := by decide
  have z2 : ¬ zE 1 ≤ zE 0 := by decide
  by_cases c : (0 ≤ a ∧ a ≤ 3) ∧ 0 ≤ b ∧ b ≤ 7
  · refine ⟨0, s 20 (8 * a + b), s 20 (8 * a + b), by omega, by omega, Or.inl ⟨rfl, ?_⟩, fun _ => rfl, fun h' hM' => ?_⟩
    · simp (discharger := omega) only [zm100, zE_0, zE_1, zE_2, zE_3, zE_4, zE_5, zE_6, zE_7, zE_8, zE_9, zE_10, zE_11, zE_12, zE_13, zE_14, zE_neg, zc131, if_pos c.1, if_pos c.2, ↓zo_12, ↓zo_9, ↓zb_s, ↓zLVa cr cV, ↓zLUi cV]
    · obtain ⟨d, d1, d2⟩ := zp202 (h := h') a1 a2 b1 b2
      have hM1 := hM'.ws 0 (by decide) 0
      rcases d1 with ⟨rfl, -⟩ | ⟨rfl, d1⟩
      · simp (discharger := omega) only [zm208, zm208_9, ↓zM_ob, d2, ↓zb_s, ↓zlet_s, zE_0, z1, if_false, zMs0 hM1, zup_s, Int32.le_refl, if_true]
        rw [zri_m8, zMi20 hM1 (by omega) (by omega)]
        rfl
      · exact absurd c d1
  · refine ⟨1, 0, 0, by omega, by omega, Or.inr ⟨by omega, 1, by omega, ?_⟩, fun _ => rfl, fun h' hM' => ?_⟩
    · by_cases c1 : 0 ≤ a ∧ a ≤ 3
      · have c2 : ¬ (0 ≤ b ∧ b ≤ 7) := fun z => c ⟨c1, z⟩
        simp (discharger := omega) only [zm100, zE_0, zE_1, zE_2, zE_3, zE_4, zE_5, zE_6, zE_7, zE_8, zE_9, zE_10, zE_11, zE_12, zE_13, zE_14, zE_neg, zc131, if_pos c1, if_neg c2, ↓zb_s, ↓zb_x]
      · simp (discharger := omega) only [zm100, zE_0, zE_1, zE_2, zE_3, zE_4, zE_5, zE_6, zE_7, zE_8, zE_9, zE_10, zE_11, zE_12, zE_13, zE_14, zE_neg, zc131, if_neg c1, ↓zb_x]
    · obtain ⟨d, d1, d2⟩ := zp202 (h := h') a1 a2 b1 b2
      have hM1 := hM'.ws 0 (by decide) 1
      rcases d1 with ⟨rfl, d1⟩ | ⟨rfl, -⟩
      · exact absurd d1 c
      · simp (discharger := omega) only [zm208, zm208_9, ↓zM_ob, d2, ↓zb_s, ↓zlet_s, zE_0, zE_1, if_true, zMs0 hM1, zup_s, z2, if_false]
