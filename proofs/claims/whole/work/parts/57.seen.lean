set_option maxRecDepth 16384
/-! Calls on what is live and what is seen: both sides. -/
theorem zr_forbids (x y : Int32) : zPrI (fun h => zm42 (some (12, 0)) x y h) (fun h => zm147 (some (13, 0)) x y h) (fun _ => 2) 1 := by
  refine zPrI_ro fun h s hC hM hW => ?_
  obtain ⟨a, rfl, a1, a2⟩ := zE_ex x
  obtain ⟨b, rfl, b1, b2⟩ := zE_ex y
  obtain ⟨cr, cs, cA, -⟩ := hC
  obtain ⟨wA, wK, wC, wD, -⟩ := hW
  have hn := wA.1
  have z1 : ¬ zE 1 = zE 0 := by decide
  have z2 : ¬ zE 1 ≤ zE 0 := by decide
  by_cases c : 0 ≤ a ∧ a < s 2 0
  · by_cases d : 0 ≤ b ∧ b < s 2 0
    · obtain ⟨v, v1, v2⟩ := zc1 cA wA c.1 c.2 d.1 d.2
      refine ⟨0, v, v, by omega, by omega, Or.inl ⟨rfl, ?_⟩, fun _ => rfl, fun h' hM' => ?_⟩
      · simp (discharger := omega) only [zm42, ↓zo_12, ↓zLAz cr cA, zc130, if_pos c, if_pos d, ↓zb_s, ↓zLAg cr cA, ↓zo_0, v2]
      · obtain ⟨p, p1, p2⟩ := zp142 hM' wA (x := a) a1 a2
        obtain ⟨q, q1, q2⟩ := zp142 hM' wA (x := b) b1 b2
        have hM1 := hM'.ws 0 (by decide) 0
        obtain ⟨w, w1, w2⟩ := zp146 hM1 (show zWa (zup s 0 0 0) from wA) c.1 c.2 d.1 d.2
        have w1 : zrs s a b w := w1
        have e := zrs_u v1 w1
        subst e
        rcases p1 with ⟨rfl, -⟩ | ⟨rfl, p1⟩
        · rcases q1 with ⟨rfl, -⟩ | ⟨rfl, q1⟩
          · simp (discharger := omega) only [zm147, zm147_12, ↓zM_ob, p2, q2, zb_s, ↓zlet_s, zE_0, z1, if_false, zMs0 hM1, zup_s, Int32.le_refl, if_true, w2]
          · exact absurd d q1
        · exact absurd c p1
    · refine ⟨1, 0, 0, by omega, by omega, Or.inr ⟨by omega, 1, by omega, ?_⟩, fun _ => rfl, fun h' hM' => ?_⟩
      · simp (discharger := omega) only [zm42, ↓zo_12, ↓zLAz cr cA, zc130, if_pos c, if_neg d, ↓zb_s, ↓zb_x]
      · obtain ⟨p, p1, p2⟩ := zp142 hM' wA (x := a) a1 a2
        obtain ⟨q, q1, q2⟩ := zp142 hM' wA (x := b) b1 b2
        have hM1 := hM'.ws 0 (by decide) 1
        rcases p1 with ⟨rfl, -⟩ | ⟨rfl, p1⟩
        · rcases q1 with ⟨rfl, q1⟩ | ⟨rfl, -⟩
          · exact absurd q1 d
          · simp (discharger := omega) only [zm147, zm147_12, ↓zM_ob, p2, q2, zb_s, ↓zlet_s, zE_0, zE_1, z1, if_false, if_true, zMs0 hM1, zup_s, z2]
        · exact absurd c p1
  · refine ⟨1, 0, 0, by omega, by omega, Or.inr ⟨by omega, 1, by omega, ?_⟩, fun _ => rfl, fun h' hM' => ?_⟩
    · simp (discharger := omega) only [zm42, ↓zo_12, ↓zLAz cr cA, zc130, if_neg c, ↓zb_x]
    · obtain ⟨p, p1, p2⟩ := zp142 hM' wA (x := a) a1 a2
      have hM1 := hM'.ws 0 (by decide) 1
      rcases p1 with ⟨rfl, p1⟩ | ⟨rfl, -⟩
      · exact absurd p1 c
      · simp (discharger := omega) only [zm147, zm147_12, ↓zM_ob, p2, zb_s, ↓zlet_s, zE_0, zE_1, if_true, zMs0 hM1, zup_s, z2, if_false]
theorem zPrZ_ro {C M : zH → zRs Int32} {ex : Int → Nat} {tm : Int} (hp : ∀ (h : zH) (s : zS), zCl h s → zMd h s → zWf s → ∃ t v w : Int, 0 ≤ t ∧ t ≤ tm ∧ (v = 0 ∨ v = 1) ∧ (w = 0 ∨ w = 1) ∧ ((t = 0 ∧ C h = some (.inl (zE v), h)) ∨ (t ≠ 0 ∧ ∃ n, n ≤ 1 ∧ C h = some (.inr (ex t), zro h n 6))) ∧ (t = 0 → w = v) ∧ ∀ h', zMd h' s → M h' = some (.inl (zE w), zsi h' 13 0 0 (zE t))) : zPrZ C M ex tm := by
  intro h s hC hM hW
  obtain ⟨t, v, w, t0, t1, v01, w01, hc, hv, hm⟩ := hp h s hC hM hW
  refine ⟨t, v, w, s, t0, t1, hW, v01, w01, ?_, hv, fun h' hM' => ⟨zup s 0 0 t, zsc_up, zup_s, _, hm h' hM', hM'.ws 0 (by decide) t, zKp_i (fun z => z (Or.inl rfl)), rfl, rfl⟩⟩
  rcases hc with ⟨e, hc⟩ | ⟨e, n, hn, hc⟩
  · exact Or.inl ⟨e, _, hc, hC, zKp.rf, by omega, by omega⟩
  · exact Or.inr ⟨e, _, hc, hC.kp zKp_o, zKp_o, by show zce h + n ≤ _; omega, by show zso h + 6 ≤ _; omega⟩
theorem zr_isLive (x : Int32) : zPrZ (fun h => zm43 (some (12, 0)) x h) (fun h => zm149 (some (13, 0)) x h) (fun _ => 2) 1 := by
  refine zPrZ_ro fun h s hC hM hW => ?_
  obtain ⟨a, rfl, a1, a2⟩ := zE_ex x
  obtain ⟨cr, cs, cA, -⟩ := hC
  obtain ⟨wA, wK, wC, wD, -⟩ := hW
  have hn := wA.1
  have z1 : ¬ zE 1 = zE 0 := by decide
  have z2 : ¬ zE 1 ≤ zE 0 := by decide
  by_cases c : 0 ≤ a ∧ a < s 2 0
  · have hu := zus_r s a
    have hp := zus_p wA wK wC c.1 c.2
    by_cases l : zlv s a (-1)
    · have h3 : ¬ zus s a ≤ 0 := by have := hp.mpr l; omega
      refine ⟨0, 1, 1, by omega, by omega, Or.inr rfl, Or.inr rfl, Or.inl ⟨rfl, ?_⟩, fun _ => rfl, fun h' hM' => ?_⟩
      · simp (discharger := omega) only [zm43, ↓zo_12, ↓zLAz cr cA, zc130, if_pos c, ↓zb_s, ↓zLAg cr cA, ↓zo_0, zCa10 cA, zE_0, zE_1, zE_2, zE_3, zE_4, zE_5, zE_6, zE_7, zE_8, zE_9, zE_10, zE_11, zE_12, zE_13, zE_14, zE_neg, zE_le, h3, if_false]
      · obtain ⟨p, p1, p2⟩ := zp142 hM' wA (x := a) a1 a2
        have hM1 := hM'.ws 0 (by decide) 0
        obtain ⟨w, w1, w2⟩ := zp148 hM1 (show zWa (zup s 0 0 0) from wA) (show zWk (zup s 0 0 0) from wK) (show zWc (zup s 0 0 0) from wC) (a := a) (w := -1) c.1 c.2 (by omega)
        have w3 : zbo w (zlv s a (-1)) := w1
        rcases p1 with ⟨rfl, -⟩ | ⟨rfl, p1⟩
        · rcases w3 with ⟨rfl, -⟩ | ⟨rfl, w3⟩
          · simp (discharger := omega) only [zm149, zm149_8, ↓zM_ob, p2, zb_s, ↓zlet_s, zE_0, zE_1, zE_2, zE_3, zE_4, zE_5, zE_6, zE_7, zE_8, zE_9, zE_10, zE_11, zE_12, zE_13, zE_14, zE_neg, z1, if_false, zMs0 hM1, zup_s, if_true, w2]
          · exact absurd l w3
        · exact absurd c p1
    · have h3 : zus s a ≤ 0 := Int.not_lt.mp fun z => l (hp.mp z)
      refine ⟨0, 0, 0, by omega, by omega, Or.inl rfl, Or.inl rfl, Or.inl ⟨rfl, ?_⟩, fun _ => rfl, fun h' hM' => ?_⟩
      · simp (discharger := omega) only [zm43, ↓zo_12, ↓zLAz cr cA, zc130, if_pos c, ↓zb_s, ↓zLAg cr cA, ↓zo_0, zCa10 cA, zE_0, zE_1, zE_2, zE_3, zE_4, zE_5, zE_6, zE_7, zE_8, zE_9, zE_10, zE_11, zE_12, zE_13, zE_14, zE_neg, zE_le, h3, if_true]
      · obtain ⟨p, p1, p2⟩ := zp142 hM' wA (x := a) a1 a2
        have hM1 := hM'.ws 0 (by decide) 0
        obtain ⟨w, w1, w2⟩ := zp148 hM1 (show zWa (zup s 0 0 0) from wA) (show zWk (zup s 0 0 0) from wK) (show zWc (zup s 0 0 0) from wC) (a := a) (w := -1) c.1 c.2 (by omega)
        have w3 : zbo w (zlv s a (-1)) := w1
        rcases p1 with ⟨rfl, -⟩ | ⟨rfl, p1⟩
        · rcases w3 with ⟨rfl, w3⟩ | ⟨rfl, -⟩
          · exact absurd w3 l
          · simp (discharger := omega) only [zm149, zm149_8, ↓zM_ob, p2, zb_s, ↓zlet_s, zE_0, zE_1, zE_2, zE_3, zE_4, zE_5, zE_6, zE_7, zE_8, zE_9, zE_10, zE_11, zE_12, zE_13, zE_14, zE_neg, z1, if_false, zMs0 hM1, zup_s, if_true, w2]
        · exact absurd c p1
  · refine ⟨1, 0, 0, by omega, by omega, Or.inl rfl, Or.inl rfl, Or.inr ⟨by omega, 1, by omega, ?_⟩, fun _ => rfl, fun h' hM' => ?_⟩
    · simp (discharger := omega) only [zm43, ↓zo_12, ↓zLAz cr cA, zc130, if_neg c, ↓zb_x]
    · obtain ⟨p, p1, p2⟩ := zp142 hM' wA (x := a) a1 a2
      have hM1 := hM'.ws 0 (by decide) 1
      rcases p1 with ⟨rfl, p1⟩ | ⟨rfl, -⟩
      · exact absurd p1 c
      · simp (discharger := omega) only [zm149, zm149_8, ↓zM_ob, p2, zb_s, ↓zlet_s, zE_0, zE_1, zE_2, zE_3, zE_4, zE_5, zE_6, zE_7, zE_8, zE_9, zE_10, zE_11, zE_12, zE_13, zE_14, zE_neg, if_true, zMs0 hM1, zup_s, z1, if_false]
/-- a call whose answer the law compares at once -/
theorem zdir {lab : zLk → zLk} {C M : zH → zRs Int32} (hp : ∀ (h : zH) (s : zS), zCl h s → zMd h s → zWf s → ∃ v : Int32, C h = some (.inl v, h) ∧ M h = some (.inl v, zsi h 13 0 0 (zE 0)))
    (hl : ∀ (k : zLk) (i : Int) (h h1 : zH) (v : Int32), C h = some (.inl v, h) → M h = some (.inl v, h1) → lab k (some (40, 0)) (some (12, 0)) (some (13, 0)) (some (38, 0)) (some (39, 0)) (zE i) h = zm291_2349 k (some (40, 0)) (some (12, 0)) (some (13, 0)) (some (38, 0)) (some (39, 0)) (zE i) h1) : zCase fun k => lab k := by
  intro L xs h s i k hL hI h0 h1
  obtain ⟨hC, hM, hW, hS⟩ := hI
  obtain ⟨v, e1, e2⟩ := hp h s hC hM hW
  refine ⟨zsi h 13 0 0 (zE 0), zup s 0 0 0, ⟨(hC.kp (zKp_i (fun z => z.2 rfl))).sc zsc_up, hM.ws 0 (by decide) 0, hW.sc zsc_up, hS⟩, by show zce h ≤ _; omega, by show zso h ≤ _; omega, ?_⟩
  exact (hl k i h _ v e1 e2).trans zgo
theorem zcase_16 : zCase fun k => zm291_694 k := by
  refine zdir (C := fun h => zm83 (some (12, 0)) h) (M := fun h => zm189 (some (13, 0)) h) (fun h s hC hM hW => ?_) (fun k i h h1 v e1 e2 => ?_)
  · obtain ⟨cr, cs, -⟩ := hC
    obtain ⟨-, -, -, -, -, -, -, -, -, -, -, wX⟩ := hW
    have hM1 := hM.ws 0 (by decide) 0
    have hv : zE (s 43 0) = 0 ∨ zE (s 43 0) = 1 := by
      rcases (show s 43 0 = 0 ∨ s 43 0 = 1 by have := wX.1; omega) with e | e <;> rw [e]
      · exact Or.inl rfl
      · exact Or.inr rfl
    refine ⟨zE (s 43 0), ?_, ?_⟩
    · show zm83 (some (12, 0)) h = _
      rw [zm83, zo_12, zCs13 cs, zif_s hv]
    · show zm189 (some (13, 0)) h = _
      rw [zm189, zM_ob, zlet_s, zE_0, zMs43 hM1]
      exact zif_s hv
  · rw [zm291_694, zo_12, e1, zb_s, zo_13, e2, zb_s, if_pos rfl]
theorem zcase_17 : zCase fun k => zm291_701 k := by
  refine zdir (C := fun h => zm84 (some (12, 0)) h) (M := fun h => zm190 (some (13, 0)) h) (fun h s hC hM hW => ?_) (fun k i h h1 v e1 e2 => ?_)
  · obtain ⟨cr, cs, -⟩ := hC
    have hM1 := hM.ws 0 (by decide) 0
    refine ⟨zE (s 45 0), ?_, ?_⟩
    · show zm84 (some (12, 0)) h = _
      rw [zm84, zo_12, zCs14 cs]
    · show zm190 (some (13, 0)) h = _
      rw [zm190, zM_ob, zlet_s, zE_0, zMs45 hM1]
      rfl
  · rw [zm291_701, zo_12, e1, zb_s, zo_13, e2, zb_s, if_pos rfl]
