set_option maxRecDepth 16384
/-! verdict, verdictByAll, capital, badPart: both sides. -/
theorem zr_verdict (x y : Int32) : zPrI (fun h => zm103 (some (12, 0)) x y h) (fun h => zm216 (some (13, 0)) x y h) (fun _ => 0) 1 := by
  refine zPrI_ro fun h s hC hM hW => ?_
  obtain ⟨a, rfl, a1, a2⟩ := zE_ex x
  obtain ⟨b, rfl, b1, b2⟩ := zE_ex y
  have z1 : ¬ zE 1 = zE 0 := by decide
  have cr := hC.1
  have cV := hC.2.2.2.2.2.2.2.2.1
  have cK := hC.2.2.2.2.2.2.2.2.2.1
  have cM := hC.2.2.2.2.2.2.2.2.2.2.2.2.1
  have wM := hW.2.2.2.2.2.2.2.2.2.2.1
  obtain ⟨d1, d2⟩ := zc132 (h := h) cr cV a1 a2 b1 b2
  by_cases q : (0 ≤ a ∧ a ≤ 3) ∧ 0 ≤ b ∧ b ≤ 2
  · refine ⟨0, zvd s (3 * a + b), zvd s (3 * a + b), by omega, by omega, Or.inl ⟨rfl, ?_⟩, fun _ => rfl, fun h' hM' => ?_⟩
    · have e1 := zc34 (k := 3 * a + b) cK cM wM (by omega) (by omega)
      simp (discharger := omega) only [zm103, ↓zo_12, d1 q, ↓zb_s, ↓zo_10, e1]
    · have e1 := zp214 (k := 3 * a + b) (hM'.ws 0 (by decide) 0) (show zWm (zup s 0 0 0) from wM) (by omega) (by omega)
      rw [zvd_q zmq_0] at e1
      simp (discharger := omega) only [zm216, ↓zM_ob, (zp191 hM' a1 a2 b1 b2).1 q, ↓zb_s, zE_0, zE_1, zE_2, zE_3, zE_4, zE_5, zE_6, zE_7, zE_8, zE_9, zE_10, zE_11, zE_12, zE_13, zE_14, zE_neg, z1, if_false, zE_mul, zE_add, e1]
  · refine ⟨1, 0, 0, by omega, by omega, Or.inr ⟨by omega, 1, by omega, ?_⟩, fun _ => rfl, fun h' hM' => ?_⟩
    · simp (discharger := omega) only [zm103, ↓zo_12, d2 q, ↓zb_x]
    · simp (discharger := omega) only [zm216, ↓zM_ob, (zp191 hM' a1 a2 b1 b2).2 q, ↓zb_s, zE_0, zE_1, zE_2, zE_3, zE_4, zE_5, zE_6, zE_7, zE_8, zE_9, zE_10, zE_11, zE_12, zE_13, zE_14, zE_neg, if_true]
theorem zr_verdictByAll (x y : Int32) : zPrI (fun h => zm104 (some (12, 0)) x y h) (fun h => zm217 (some (13, 0)) x y h) (fun _ => 0) 1 := by
  refine zPrI_ro fun h s hC hM hW => ?_
  obtain ⟨a, rfl, a1, a2⟩ := zE_ex x
  obtain ⟨b, rfl, b1, b2⟩ := zE_ex y
  have z1 : ¬ zE 1 = zE 0 := by decide
  have cr := hC.1
  have cV := hC.2.2.2.2.2.2.2.2.1
  have cK := hC.2.2.2.2.2.2.2.2.2.1
  have cM := hC.2.2.2.2.2.2.2.2.2.2.2.2.1
  have wM := hW.2.2.2.2.2.2.2.2.2.2.1
  obtain ⟨d1, d2⟩ := zc132 (h := h) cr cV a1 a2 b1 b2
  by_cases q : (0 ≤ a ∧ a ≤ 3) ∧ 0 ≤ b ∧ b ≤ 2
  · refine ⟨0, zvd s (3 * a + b), zvd s (3 * a + b), by omega, by omega, Or.inl ⟨rfl, ?_⟩, fun _ => rfl, fun h' hM' => ?_⟩
    · have e1 := zc35 (k := 3 * a + b) cK cM wM (by omega) (by omega)
      simp (discharger := omega) only [zm104, ↓zo_12, d1 q, ↓zb_s, ↓zo_10, e1]
    · have e1 := zp214 (k := 3 * a + b) (hM'.ws 0 (by decide) 0) (show zWm (zup s 0 0 0) from wM) (by omega) (by omega)
      rw [zvd_q zmq_0] at e1
      simp (discharger := omega) only [zm217, zm216, ↓zM_ob, (zp191 hM' a1 a2 b1 b2).1 q, ↓zb_s, zE_0, zE_1, zE_2, zE_3, zE_4, zE_5, zE_6, zE_7, zE_8, zE_9, zE_10, zE_11, zE_12, zE_13, zE_14, zE_neg, z1, if_false, zE_mul, zE_add, e1]
  · refine ⟨1, 0, 0, by omega, by omega, Or.inr ⟨by omega, 1, by omega, ?_⟩, fun _ => rfl, fun h' hM' => ?_⟩
    · simp (discharger := omega) only [zm104, ↓zo_12, d2 q, ↓zb_x]
    · simp (discharger := omega) only [zm217, zm216, ↓zM_ob, (zp191 hM' a1 a2 b1 b2).2 q, ↓zb_s, zE_0, zE_1, zE_2, zE_3, zE_4, zE_5, zE_6, zE_7, zE_8, zE_9, zE_10, zE_11, zE_12, zE_13, zE_14, zE_neg, if_true]
theorem zr_capital (x y : Int32) : zPrD (fun h => zm102 (some (12, 0)) x y h) (fun h => zm215 (some (13, 0)) x y h) (fun _ => 0) 1 := by
  intro h s hC hM hW
  obtain ⟨a, rfl, a1, a2⟩ := zE_ex x
  obtain ⟨b, rfl, b1, b2⟩ := zE_ex y
  have z1 : ¬ zE 1 = zE 0 := by decide
  have cr := hC.1
  have cV := hC.2.2.2.2.2.2.2.2.1
  have cK := hC.2.2.2.2.2.2.2.2.2.1
  have cM := hC.2.2.2.2.2.2.2.2.2.2.2.2.1
  have wM := hW.2.2.2.2.2.2.2.2.2.2.1
  obtain ⟨d1, d2⟩ := zc132 (h := h) cr cV a1 a2 b1 b2
  by_cases q : (0 ≤ a ∧ a ≤ 3) ∧ 0 ≤ b ∧ b ≤ 2
  · refine ⟨0, zcpN s (3 * a + b) (zprs s (3 * a + b)).toNat, zcpN s (3 * a + b) (zprs s (3 * a + b)).toNat, s, by omega, by omega, hW, Or.inl ⟨rfl, h, ?_, hC, zKp.rf, by omega, by omega⟩, fun _ => rfl, fun h' hM' => ⟨zup s 0 0 0, zsc_up, zup_s, _, ?_, hM'.ws 0 (by decide) 0, zKp_i (fun z => z (Or.inl rfl)), rfl, rfl⟩⟩
    · have e1 := cM.2 (3 * a + b) (by omega) (by omega)
      simp (discharger := omega) only [zm102, ↓zo_12, d1 q, ↓zb_s, ↓zo_10, e1]
    · have e1 := zp211 (k := 3 * a + b) (hM'.ws 0 (by decide) 0) (show zWm (zup s 0 0 0) from wM) (by omega) (by omega)
      rw [zcpN_q zmq_0, zprs_q zmq_0] at e1
      simp (discharger := omega) only [zm215, ↓zM_ob, (zp191 hM' a1 a2 b1 b2).1 q, ↓zb_s, zE_0, zE_1, zE_2, zE_3, zE_4, zE_5, zE_6, zE_7, zE_8, zE_9, zE_10, zE_11, zE_12, zE_13, zE_14, zE_neg, z1, if_false, zE_mul, zE_add, e1]
  · refine ⟨1, 0, 0, s, by omega, by omega, hW, Or.inr ⟨by omega, zro h 1 6, ?_, hC.kp zKp_o, zKp_o, by show zce h + 1 ≤ _; omega, by show zso h + 6 ≤ _; omega⟩, fun _ => rfl, fun h' hM' => ⟨zup s 0 0 1, zsc_up, zup_s, _, ?_, hM'.ws 0 (by decide) 1, zKp_i (fun z => z (Or.inl rfl)), rfl, rfl⟩⟩
    · simp (discharger := omega) only [zm102, ↓zo_12, d2 q, ↓zb_x]
    · simp (discharger := omega) only [zm215, ↓zM_ob, (zp191 hM' a1 a2 b1 b2).2 q, ↓zb_s, zE_0, zE_1, zE_2, zE_3, zE_4, zE_5, zE_6, zE_7, zE_8, zE_9, zE_10, zE_11, zE_12, zE_13, zE_14, zE_neg, if_true]
theorem zp218_25 {h : zH} {s : zS} (hM : zMd h s) (hW : zWm s) {k48 : zq → Int32 → Int32 → zH → zRs UInt32} {w : Int} (w0 : 0 ≤ w) (w1 : w < 24) : zm218_25 k48 zN0 (some (13, 0)) (zE w) (zE 0) (zE 0) h = k48 (some (13, 0)) (zE w) (zE (zcnt (fun x => s 48 (600 * w + x) = 1) (s 47 w).toNat)) h := by
  have hm := hW.1
  obtain ⟨h2, h3⟩ := hW.2 w w0 w1
  have z1 : ¬ zE 1 = zE 0 := by decide
  refine zloop0 (W := fun n i t => zm218_25 k48 n (some (13, 0)) (zE w) (zE t) (zE i) h) (N := s 47 w) (fun i t => t = zcnt (fun x => s 48 (600 * w + x) = 1) i.toNat) (fun r => r = k48 (some (13, 0)) (zE w) (zE (zcnt (fun x => s 48 (600 * w + x) = 1) (s 47 w).toNat)) h) 0 rfl h2.1 (by omega) ?_ ?_
  · rintro n t rfl
    simp (discharger := omega) only [zm218_25, ↓zM_ob, ↓zMi47 hM, Int32.le_refl, if_true]
  · rintro n i t i0 i1 rfl
    have e0 : ¬ s 47 w ≤ i := by omega
    obtain ⟨g1, g2⟩ := h3 i i0 i1
    refine Or.inr ⟨_, rfl, ?_⟩
    rw [zcnt_1 i0]
    rcases (show s 48 (600 * w + i) = 0 ∨ s 48 (600 * w + i) = 1 by omega) with q | q
    · rw [zcn1_f (by omega : ¬ s 48 (600 * w + i) = 1)]
      simp (discharger := omega) only [zm218_25, zm218_44, ↓zM_ob, ↓zMi47 hM, zE_le, e0, if_false, zE_600, zE_mul, zE_add, ↓zMi48 hM, q, zE_0, zE_1, zE_2, zE_3, zE_4, zE_5, zE_6, zE_7, zE_8, zE_9, zE_10, zE_11, zE_12, zE_13, zE_14, zE_neg, if_true, ↓zlet_s]
    · rw [zcn1_t q]
      simp (discharger := omega) only [zm218_25, zm218_44, ↓zM_ob, ↓zMi47 hM, zE_le, e0, if_false, zE_600, zE_mul, zE_add, ↓zMi48 hM, q, zE_0, zE_1, zE_2, zE_3, zE_4, zE_5, zE_6, zE_7, zE_8, zE_9, zE_10, zE_11, zE_12, zE_13, zE_14, zE_neg, z1, ↓zlet_s]
/-- the part of bad ones, as a float -/
noncomputable def zbpt (s : zS) (w : Int) : UInt32 := if s 47 w = 0 then 0 else FP.fdiv (FP.i2f (zE (zcnt (fun x => s 48 (600 * w + x) = 1) (s 47 w).toNat))) (FP.i2f (zE (s 47 w)))
theorem zbpt_n {s : zS} (hM : zWm s) {w : Int} (w0 : 0 ≤ w) (w1 : w < 24) : FP.Core.val32 (zbpt s w) ≠ .nan := by
  have hm := hM.1
  obtain ⟨h2, h3⟩ := hM.2 w w0 w1
  have hr := zcnt_r (fun x => s 48 (600 * w + x) = 1) (s 47 w).toNat
  unfold zbpt
  split
  · decide +kernel
  · exact zF_div (by omega) (by omega) (by omega) (by omega)
theorem zr_badPart (x y : Int32) {b : Int} (hb : b = 0 ∨ b = 1) : zPrF (fun h => zm105 (some (12, 0)) x y (zE b) h) (fun h => zm218 (some (13, 0)) x y (zE b) h) (fun _ => 0) 1 := by
  intro h s hC hM hW
  obtain ⟨a, rfl, a1, a2⟩ := zE_ex x
  obtain ⟨g, rfl, g1, g2⟩ := zE_ex y
  have z1 : ¬ zE 1 = zE 0 := by decide
  have cr := hC.1
  have cV := hC.2.2.2.2.2.2.2.2.1
  have cK := hC.2.2.2.2.2.2.2.2.2.1
  have cM := hC.2.2.2.2.2.2.2.2.2.2.2.2.1
  have wM := hW.2.2.2.2.2.2.2.2.2.2.1
  obtain ⟨d1, d2⟩ := zc132 (h := h) cr cV a1 a2 g1 g2
  by_cases q : (0 ≤ a ∧ a ≤ 3) ∧ 0 ≤ g ∧ g ≤ 2
  · obtain ⟨w, hw⟩ : ∃ w, w = 2 * (3 * a + g) + b := ⟨_, rfl⟩
    have w0 : 0 ≤ w := by omega
    have w1 : w < 24 := by omega
    have wd : w / 2 = 3 * a + g := by omega
    obtain ⟨cc, k1, k2, k3, k4, k5, k6, k7, k8, k9⟩ := zsmp cM w0 w1
    rw [wd] at k5 k6
    have hm := wM.1
    obtain ⟨h2, h3⟩ := wM.2 w w0 w1
    have hr := zcnt_r (fun x => s 48 (600 * w + x) = 1) (s 47 w).toNat
    have hn := zbpt_n wM w0 w1
    have e31 : zm31 (some (10, (3 * a + g).toNat)) (zE b) h = some (.inl (some (zsk w, (3 * a + g).toNat)), h) := by
      rcases hb with rfl | rfl
      · rw [show w = 2 * (3 * a + g) by omega, zsk_0]
        simp (discharger := omega) only [zm31, zE_0, zE_1, zE_2, zE_3, zE_4, zE_5, zE_6, zE_7, zE_8, zE_9, zE_10, zE_11, zE_12, zE_13, zE_14, zE_neg, if_true, ↓zo_10, zCk6 cK]
      · rw [hw, zsk_1]
        simp (discharger := omega) only [zm31, zE_0, zE_1, zE_2, zE_3, zE_4, zE_5, zE_6, zE_7, zE_8, zE_9, zE_10, zE_11, zE_12, zE_13, zE_14, zE_neg, z1, if_false, ↓zo_10, zCk5 cK]
    have e218 : ∀ h', zMd h' s → zm218 (some (13, 0)) (zE a) (zE g) (zE b) h' = zm218_48 (some (13, 0)) (zE w) (zE (zcnt (fun x => s 48 (600 * w + x) = 1) (s 47 w).toNat)) (zsi h' 13 0 0 (zE 0)) := fun h' hM' => by
      have hM1 := hM'.ws 0 (by decide) 0
      have lp := fun (k48 : zq → Int32 → Int32 → zH → zRs UInt32) => zp218_25 (k48 := k48) hM1 (show zWm (zup s 0 0 0) from wM) w0 w1
      rcases hb with rfl | rfl
      · simp (discharger := omega) only [zm218, zm218_19, ↓zM_ob, (zp191 hM' a1 a2 g1 g2).1 q, ↓zb_s, zE_0, zE_1, zE_2, zE_3, zE_4, zE_5, zE_6, zE_7, zE_8, zE_9, zE_10, zE_11, zE_12, zE_13, zE_14, zE_neg, z1, if_false, if_true, zE_mul, zE_add, ↓zlet_s, ← hw, lp]
        rfl
      · simp (discharger := omega) only [zm218, zm218_19, ↓zM_ob, (zp191 hM' a1 a2 g1 g2).1 q, ↓zb_s, zE_0, zE_1, zE_2, zE_3, zE_4, zE_5, zE_6, zE_7, zE_8, zE_9, zE_10, zE_11, zE_12, zE_13, zE_14, zE_neg, z1, if_false, zE_mul, zE_add, ↓zlet_s, ← hw, lp]
        rfl
    refine ⟨0, zbpt s w, zbpt s w, s, by omega, by omega, hW, Or.inl ⟨rfl, h, ?_, hC, zKp.rf, by omega, by omega⟩, fun _ => ⟨rfl, (zF_f2d hn).1, (zF_f2d hn).2⟩, fun h' hM' => ⟨zup s 0 0 0, zsc_up, zup_s, _, ?_, hM'.ws 0 (by decide) 0, zKp_i (fun z => z (Or.inl rfl)), rfl, rfl⟩⟩
    · by_cases c : s 47 w = 0
      · have hv : zbpt s w = 0 := if_pos c
        rw [hv]
        simp (discharger := omega) only [zm105, ↓zo_12, d1 q, ↓zb_s, ↓zo_10, e31, ↓zo_7g, k5, c, zE_0, zE_1, zE_2, zE_3, zE_4, zE_5, zE_6, zE_7, zE_8, zE_9, zE_10, zE_11, zE_12, zE_13, zE_14, zE_neg, Int32.le_refl, if_true]
      · have c' : ¬ s 47 w ≤ 0 := by omega
        have hv : zbpt s w = FP.fdiv (FP.i2f (zE (zcnt (fun x => s 48 (600 * w + x) = 1) (s 47 w).toNat))) (FP.i2f (zE (s 47 w))) := if_neg c
        rw [hv] at hn ⊢
        simp (discharger := omega) only [zm105, ↓zo_12, d1 q, ↓zb_s, ↓zo_10, e31, ↓zo_7g, k5, k6, zE_0, zE_1, zE_2, zE_3, zE_4, zE_5, zE_6, zE_7, zE_8, zE_9, zE_10, zE_11, zE_12, zE_13, zE_14, zE_neg, zE_le, c', if_false]
        exact zif_s (zF_n32.mpr hn)
    · show zm218 (some (13, 0)) (zE a) (zE g) (zE b) h' = _
      rw [e218 h' hM']
      have hM1 := hM'.ws 0 (by decide) 0
      have f1 : zup s 0 0 0 47 w = s 47 w := rfl
      by_cases c : s 47 w = 0
      · have hv : zbpt s w = 0 := if_pos c
        rw [hv]
        simp (discharger := omega) only [zm218_48, ↓zM_ob, ↓zMi47 hM1, f1, c, zE_0, zE_1, zE_2, zE_3, zE_4, zE_5, zE_6, zE_7, zE_8, zE_9, zE_10, zE_11, zE_12, zE_13, zE_14, zE_neg, if_true]
      · have hv : zbpt s w = FP.fdiv (FP.i2f (zE (zcnt (fun x => s 48 (600 * w + x) = 1) (s 47 w).toNat))) (FP.i2f (zE (s 47 w))) := if_neg c
        rw [hv] at hn ⊢
        simp (discharger := omega) only [zm218_48, ↓zM_ob, ↓zMi47 hM1, f1, zE_0, zE_1, zE_2, zE_3, zE_4, zE_5, zE_6, zE_7, zE_8, zE_9, zE_10, zE_11, zE_12, zE_13, zE_14, zE_neg, zE_inj, c, if_false]
        exact zif_s (zF_n32.mpr hn)
  · refine ⟨1, 0, 0, s, by omega, by omega, hW, Or.inr ⟨by omega, zro h 1 6, ?_, hC.kp zKp_o, zKp_o, by show zce h + 1 ≤ _; omega, by show zso h + 6 ≤ _; omega⟩, fun z => absurd z (by decide), fun h' hM' => ⟨zup s 0 0 1, zsc_up, zup_s, _, ?_, hM'.ws 0 (by decide) 1, zKp_i (fun z => z (Or.inl rfl)), rfl, rfl⟩⟩
    · simp (discharger := omega) only [zm105, ↓zo_12, d2 q, ↓zb_x]
    · simp (discharger := omega) only [zm218, ↓zM_ob, (zp191 hM' a1 a2 g1 g2).2 q, ↓zb_s, zE_0, zE_1, zE_2, zE_3, zE_4, zE_5, zE_6, zE_7, zE_8, zE_9, zE_10, zE_11, zE_12, zE_13, zE_14, zE_neg, if_true]
