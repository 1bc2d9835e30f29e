set_option maxRecDepth 16384
/-! The calls that change nothing: both sides. -/
theorem zPrI_ro {C M : zH → zRs Int32} {ex : Int → Nat} {tm : Int} (hp : ∀ (h : zH) (s : zS), zCl h s → zMd h s → zWf s → ∃ t v w : Int, 0 ≤ t ∧ t ≤ tm ∧ ((t = 0 ∧ C h = some (.inl (zE v), h)) ∨ (t ≠ 0 ∧ ∃ n, n ≤ 1 ∧ C h = some (.inr (ex t), zro h n 6))) ∧ (t = 0 → w = v) ∧ ∀ h', zMd h' s → M h' = some (.inl (zE w), zsi h' 13 0 0 (zE t))) : zPrI C M ex tm := by
  intro h s hC hM hW
  obtain ⟨t, v, w, t0, t1, hc, hv, hm⟩ := hp h s hC hM hW
  refine ⟨t, v, w, s, t0, t1, hW, ?_, hv, fun h' hM' => ⟨zup s 0 0 t, zsc_up, zup_s, _, hm h' hM', hM'.ws 0 (by decide) t, zKp_i (fun z => z (Or.inl rfl)), rfl, rfl⟩⟩
  rcases hc with ⟨e, hc⟩ | ⟨e, n, hn, hc⟩
  · exact Or.inl ⟨e, _, hc, hC, zKp.rf, by omega, by omega⟩
  · exact Or.inr ⟨e, _, hc, hC.kp zKp_o, zKp_o, by show zce h + n ≤ _; omega, by show zso h + 6 ≤ _; omega⟩
theorem zr_mayGo (x : Int32) : zPrI (fun h => zm44 (some (12, 0)) x h) (fun h => zm152 (some (13, 0)) x h) (fun _ => 2) 1 := by
  refine zPrI_ro fun h s hC hM hW => ?_
  obtain ⟨a, rfl, a1, a2⟩ := zE_ex x
  obtain ⟨cr, cs, cA, -, -, -, -, -, cV, -⟩ := hC
  obtain ⟨wA, wK, wC, wD, -⟩ := hW
  have hn := wA.1
  have z1 : ¬ zE 1 = zE 0 := by decide
  by_cases c : 0 ≤ a ∧ a < s 2 0
  · obtain ⟨v, v1, v2⟩ := zc45 cr cA cV wA wK wC wD c.1 c.2
    refine ⟨0, v, v, by omega, by omega, Or.inl ⟨rfl, ?_⟩, fun _ => rfl, fun h' hM' => ?_⟩
    · simp (discharger := omega) only [zm44, ↓zo_12, ↓zLAz cr cA, zc130, if_pos c, ↓zb_s, ↓zLAg cr cA, ↓zo_0, v2]
    · obtain ⟨b, b1, b2⟩ := zp142 hM' wA (x := a) a1 a2
      have hM1 := hM'.ws 0 (by decide) 0
      obtain ⟨w, w1, w2⟩ := zp151 hM1 (show zWa (zup s 0 0 0) from wA) (show zWk (zup s 0 0 0) from wK) (show zWc (zup s 0 0 0) from wC) (show zWd (zup s 0 0 0) from wD) c.1 c.2
      have w1 : zmyV s a w := w1
      have e := zmyV_u v1 w1
      subst e
      rcases b1 with ⟨rfl, -⟩ | ⟨rfl, b1⟩
      · simp (discharger := omega) only [zm152, zm152_8, ↓zM_ob, b2, zb_s, ↓zlet_s, zE_0, z1, if_false, zMs0 hM1, zup_s, Int32.le_refl, if_true, w2]
      · exact absurd c b1
  · refine ⟨1, 0, 0, by omega, by omega, Or.inr ⟨by omega, 1, by omega, ?_⟩, fun _ => rfl, fun h' hM' => ?_⟩
    · simp (discharger := omega) only [zm44, ↓zo_12, ↓zLAz cr cA, zc130, if_neg c, ↓zb_x]
    · obtain ⟨b, b1, b2⟩ := zp142 hM' wA (x := a) a1 a2
      have hM1 := hM'.ws 0 (by decide) 1
      have z2 : ¬ zE 1 ≤ zE 0 := by decide
      rcases b1 with ⟨rfl, b1⟩ | ⟨rfl, -⟩
      · exact absurd b1 c
      · simp (discharger := omega) only [zm152, zm152_8, ↓zM_ob, b2, zb_s, ↓zlet_s, zE_0, zE_1, if_true, zMs0 hM1, zup_s, z2, if_false]
