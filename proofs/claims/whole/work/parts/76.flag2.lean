set_option maxRecDepth 16384
/-! flag. -/
theorem zp230_33 {h : zH} {s : zS} (hM : zMd h s) (hx : zac s) (hp : ∀ f, 0 ≤ f → f < 8 → -1 ≤ s 62 f ∧ s 62 f ≤ 7) {f p t0 : Int} {x2 x3 x4 : Int32} {k : zq → Int32 → Int32 → Int32 → Int32 → Int32 → zH → zRs Unit} (f0 : 0 ≤ f ∧ f ≤ 7) (p0 : -1 ≤ p ∧ p ≤ 7) (ht : zbo t0 (p = f)) : ∃ b, zbo b (zpaT s p f) ∧ zm230_33 k zN0 (some (13, 0)) (zE f) x2 x3 x4 (zE t0) (zE p) h = k (some (13, 0)) (zE f) x2 x3 x4 (zE b) h := by
  have h8 := zpa_8 hx hp p0
  have z1 : ¬ zE 1 = zE 0 := by decide
  have no : ∀ n : Nat, zpa s p n = -1 → (∀ j : Nat, j < n → zpa s p j ≠ f) → ¬ zpaT s p f := fun n e hb ⟨m, hm⟩ => by
    by_cases c : m < n
    · exact hb m c hm
    · have := zpa_m e m (by omega)
      omega
  refine zloop0 (W := fun n i t => zm230_33 k n (some (13, 0)) (zE f) x2 x3 x4 (zE t) (zE (zpa s p i.toNat)) h) (N := 8) (fun i t => (t = 1 ∧ zpaT s p f) ∨ (t = 0 ∧ ∀ j : Nat, (j : Int) < i → zpa s p j ≠ f)) (fun r => ∃ b, zbo b (zpaT s p f) ∧ r = k (some (13, 0)) (zE f) x2 x3 x4 (zE b) h) t0 ?_ (by omega) (by omega) ?_ ?_
  · rcases ht with ⟨rfl, e⟩ | ⟨rfl, e⟩
    · exact Or.inl ⟨rfl, 0, e⟩
    · exact Or.inr ⟨rfl, fun j hj => by omega⟩
  · intro n t hb
    refine ⟨t, ?_, ?_⟩
    · rcases hb with ⟨rfl, e⟩ | ⟨rfl, e⟩
      · exact zbo_1 e
      · exact zbo_0 (no 8 h8 fun j hj => e j (by omega))
    · show zm230_33 k (n + 1) (some (13, 0)) (zE f) x2 x3 x4 (zE t) (zE (zpa s p 8)) h = _
      simp only [zm230_33, zE_0, zE_1, zE_2, zE_3, zE_4, zE_5, zE_6, zE_7, zE_8, zE_9, zE_10, zE_11, zE_12, zE_13, zE_14, zE_neg, h8, if_true]
  · intro n i t h1 h2 hb
    have hr := zpa_r hp p0 i.toNat
    by_cases e1 : zpa s p i.toNat = -1
    · refine Or.inl ⟨t, ?_, ?_⟩
      · rcases hb with ⟨rfl, e⟩ | ⟨rfl, e⟩
        · exact zbo_1 e
        · exact zbo_0 (no _ e1 fun j hj => e j (by omega))
      · simp only [zm230_33, zE_0, zE_1, zE_2, zE_3, zE_4, zE_5, zE_6, zE_7, zE_8, zE_9, zE_10, zE_11, zE_12, zE_13, zE_14, zE_neg, e1, if_true]
    · have e3 : zpa s p (i + 1).toNat = s 62 (zpa s p i.toNat) := by
        rw [show (i + 1).toNat = i.toNat + 1 by omega]
        exact if_neg e1
      rcases hb with ⟨rfl, e⟩ | ⟨rfl, e⟩
      · refine Or.inl ⟨1, zbo_1 e, ?_⟩
        simp (discharger := omega) only [zm230_33, zE_0, zE_1, zE_2, zE_3, zE_4, zE_5, zE_6, zE_7, zE_8, zE_9, zE_10, zE_11, zE_12, zE_13, zE_14, zE_neg, zE_inj, e1, if_false, z1]
      · by_cases e2 : zpa s p i.toNat = f
        · refine Or.inr ⟨1, Or.inl ⟨rfl, _, e2⟩, ?_⟩
          simp only [e3]
          simp (discharger := omega) only [zm230_33, zm230_44, zE_0, zE_1, zE_2, zE_3, zE_4, zE_5, zE_6, zE_7, zE_8, zE_9, zE_10, zE_11, zE_12, zE_13, zE_14, zE_neg, zE_inj, e1, if_false, if_true, ↓zM_ob, ↓zMi62 hM, e2]
          rw [if_neg (by omega)]
        · refine Or.inr ⟨0, Or.inr ⟨rfl, fun j hj => ?_⟩, ?_⟩
          · by_cases c : (j : Int) < i
            · exact e j c
            · rw [show j = i.toNat by omega]; exact e2
          · simp only [e3]
            simp (discharger := omega) only [zm230_33, zm230_44, zE_0, zE_1, zE_2, zE_3, zE_4, zE_5, zE_6, zE_7, zE_8, zE_9, zE_10, zE_11, zE_12, zE_13, zE_14, zE_neg, zE_inj, e1, if_false, if_true, ↓zM_ob, ↓zMi62 hM, e2]
theorem zac_u {s : zS} (hx : zac s) (hp : ∀ f, 0 ≤ f → f < 8 → -1 ≤ s 62 f ∧ s 62 f ≤ 7) {f p b : Int} (f0 : 0 ≤ f ∧ f ≤ 7) (p0 : -1 ≤ p ∧ p ≤ 7) (e : ¬ zpaT s p f) : zac (zup (zup s 61 f b) 62 f p) := by
  obtain ⟨rank, hr⟩ := zac_r hx hp
  refine ⟨fun y => rank y + 8 * zcn1 (¬ zpaT s p y), fun g g0 g1 hg => ?_⟩
  show rank (zup (zup s 61 f b) 62 f p 62 g) + 8 * zcn1 (¬ zpaT s p (zup (zup s 61 f b) 62 f p 62 g)) < rank g + 8 * zcn1 (¬ zpaT s p g)
  by_cases c : g = f
  · subst c
    rw [zup_s] at hg ⊢
    rw [zcn1_t e, zcn1_f (fun z => z ⟨0, rfl⟩)]
    have h1 := (hr g g0 g1).1
    have h2 := (hr p (by omega) (by omega)).1
    omega
  · have e2 : zup (zup s 61 f b) 62 f p 62 g = s 62 g := (zup_a c).trans (zup_j (by decide))
    rw [e2] at hg ⊢
    have h1 := (hr g g0 g1).2 hg
    by_cases d : zpaT s p g
    · have d2 : zpaT s p (s 62 g) := by
        obtain ⟨n, hn⟩ := d
        refine ⟨n + 1, ?_⟩
        show (if zpa s p n = -1 then -1 else s 62 (zpa s p n)) = _
        rw [if_neg (by omega), hn]
      rw [zcn1_f (fun z => z d2), zcn1_f (fun z => z d)]
      omega
    · rw [zcn1_t d]
      have := zcn1_r (¬ zpaT s p (s 62 g))
      omega
theorem zp230_x {x1 x2 x3 : Int32} {t : Int} {h : zH} (t1 : 1 ≤ t) (t2 : t ≤ 2) : zm230_61 (some (13, 0)) x1 x2 x3 (some (13, 0)) (zE t) h = some (.inl (), zsi h 13 0 0 (zE t)) := by
  rw [zm230_61, zM_ob, zlet_s, zM_ob, if_neg]
  rw [zi_s, zE_0, zE_inj (by omega) (by omega) (by omega) (by omega)]
  omega
theorem zp230_0 {x1 x2 x3 x5 : Int32} {h : zH} (k : x5 = zE 0 ∨ x5 = zE 1) : zm230_26 (some (13, 0)) x1 x2 x3 (zE 0) x5 h = some (.inl (), zsi h 13 0 0 (zE 1)) := by
  obtain ⟨n, hn⟩ : ∃ n, zN0 = n + 1 := ⟨999, rfl⟩
  rw [zm230_26, if_pos zE_0.symm, zm230_32, hn, zm230_33, if_pos rfl, zm230_51, if_pos zE_0.symm, zE_1]
  exact zp230_x (t := 1) (by omega) (by omega)
theorem zr_flag (x y z : Int32) : zPrV (fun h => zm115 (some (12, 0)) x y z h) (fun h => zm230 (some (13, 0)) x y z h) (fun t => if t = 1 then 0 else 1) 2 := by
  intro h s hC hM hW
  obtain ⟨f, rfl, f1, f2⟩ := zE_ex x
  obtain ⟨b, rfl, b1, b2⟩ := zE_ex y
  obtain ⟨p, rfl, p1, p2⟩ := zE_ex z
  have z1 : ¬ zE 1 = zE 0 := by decide
  have cr := hC.1
  have cG := hC.2.2.2.2.2.2.2.2.2.2.1
  have hW0 := hW
  obtain ⟨wA, wK, wC, wD, wP, wR, wZ, wT, wG, wE, wM, wX⟩ := hW
  have hp : ∀ f, 0 ≤ f → f < 8 → -1 ≤ s 62 f ∧ s 62 f ≤ 7 := fun f f0 f1 => (wG.1 f f0 f1).2.1
  have hx := wX.2.2.2.1
  have m1 : ∀ h', ∃ q, zbo q (0 ≤ f ∧ f ≤ 7) ∧ zm229 (zE f) h' = some (.inl (zE q), h') := fun h' => zp229 f1 f2
  have m2 : ∀ h', ∃ q, zbo q (0 ≤ b ∧ b ≤ 100) ∧ zm139 (zE b) (zE 0) (zE 100) h' = some (.inl (zE q), h') := fun h' => zp139i b1 b2 (by omega) (by omega) (by omega) (by omega)
  have m3 : ∀ h', ∃ q, zbo q (0 ≤ p ∧ p ≤ 7) ∧ zm229 (zE p) h' = some (.inl (zE q), h') := fun h' => zp229 p1 p2
  have m0 : ∀ h', zm230_17 (some (13, 0)) (zE f) (zE b) (zE p) (zE 0) h' = some (.inl (), zsi h' 13 0 0 (zE 1)) := fun h' => by
    rw [zm230_17, if_pos zE_0.symm, zE_0]
    exact zp230_0 (Or.inl rfl)
  by_cases c : (0 ≤ f ∧ f ≤ 7) ∧ (0 ≤ b ∧ b ≤ 100) ∧ -1 ≤ p ∧ p ≤ 7
  · obtain ⟨c1, c2, c3⟩ := c
    obtain ⟨v, v1, v2⟩ := zc116 cr cG hx hp c1 c3
    have mm : ∀ h', zm230 (some (13, 0)) (zE f) (zE b) (zE p) h' = zm230_17 (some (13, 0)) (zE f) (zE b) (zE p) (zE 1) h' := fun h' => by
      obtain ⟨q1, r1, e1⟩ := m1 h'
      obtain ⟨q2, r2, e2⟩ := m2 h'
      obtain ⟨q3, r3, e3⟩ := m3 h'
      rw [r1.u (zbo_1 c1)] at e1
      rw [r2.u (zbo_1 c2)] at e2
      by_cases e : p = -1
      · simp (discharger := omega) only [zm230, e1, ↓zb_s, zE_0, zE_1, zE_2, zE_3, zE_4, zE_5, zE_6, zE_7, zE_8, zE_9, zE_10, zE_11, zE_12, zE_13, zE_14, zE_neg, zE_100, e2, z1, if_false, zE_inj, e, if_true]
      · rw [r3.u (zbo_1 (by omega))] at e3
        simp (discharger := omega) only [zm230, e1, ↓zb_s, zE_0, zE_1, zE_2, zE_3, zE_4, zE_5, zE_6, zE_7, zE_8, zE_9, zE_10, zE_11, zE_12, zE_13, zE_14, zE_neg, zE_100, e2, e3, z1, if_false, zE_inj, e]
    have mk : ∀ h', zMd h' s → zm230 (some (13, 0)) (zE f) (zE b) (zE p) h' = zm230_51 (some (13, 0)) (zE f) (zE b) (zE p) (zE 1) (zE v) h' := fun h' hM' => by
      have go : ∀ t0, zbo t0 (p = f) → zm230_26 (some (13, 0)) (zE f) (zE b) (zE p) (zE 1) (zE t0) h' = zm230_51 (some (13, 0)) (zE f) (zE b) (zE p) (zE 1) (zE v) h' := fun t0 ht => by
        obtain ⟨w, w1, w2⟩ := zp230_33 (x2 := zE b) (x3 := zE p) (x4 := zE 1) (k := zm230_51) hM' hx hp c1 c3 ht
        rw [w1.u v1] at w2
        rw [zm230_26, if_neg (by rw [zE_0]; exact z1), zm230_32]
        exact w2
      rw [mm h', zm230_17, if_neg (by rw [zE_0]; exact z1)]
      by_cases e : p = f
      · rw [if_pos (by rw [e]), zE_1]
        exact go 1 (zbo_1 e)
      · rw [if_neg (by rw [zE_inj (by omega) (by omega) (by omega) (by omega)]; exact e), zE_0]
        exact go 0 (zbo_0 e)
    rcases v1 with ⟨rfl, v1⟩ | ⟨rfl, v1⟩
    · refine zexV (t := 2) hC hW0 (by omega) (by omega) ?_ (fun h' hM' => ?_)
      · simp (discharger := omega) only [zm115, zE_0, zE_1, zE_2, zE_3, zE_4, zE_5, zE_6, zE_7, zE_8, zE_9, zE_10, zE_11, zE_12, zE_13, zE_14, zE_neg, zE_100, zc131, if_pos c1, if_pos c2, if_pos c3, ↓zb_s, ↓zo_12, v2, z1, if_false]
        rfl
      · show zm230 (some (13, 0)) (zE f) (zE b) (zE p) h' = _
        rw [mk h' hM', zm230_51, if_neg (by rw [zE_0]; exact z1), if_neg (by rw [zE_0]; exact z1), zE_2]
        exact zp230_x (t := 2) (by omega) (by omega)
    · have hC1 := zw_2_1 (x := b) hC c1.1 (by omega)
      have hC2 := zw_2_2 (x := p) hC1 c1.1 (by omega)
      have hW' : zWf (zup (zup s 61 f b) 62 f p) := by
        refine ⟨wA, wK, wC, wD, wP, wR, wZ, wT, ⟨fun u u0 u1 => ?_, wG.2⟩, wE, wM, wX.1, wX.2.1, wX.2.2.1, zac_u hx hp c1 c3 v1, wX.2.2.2.2⟩
        obtain ⟨q1, q2, q3, q4, q5⟩ := wG.1 u u0 u1
        have e61 : zup (zup s 61 f b) 62 f p 61 u = zup s 61 f b 61 u := zup_j (by decide)
        refine ⟨?_, ?_, q3, q4, q5⟩
        · rw [e61]
          by_cases e : u = f
          · subst e; rw [zup_s]; omega
          · rw [zup_a e]; exact q1
        · by_cases e : u = f
          · subst e; rw [zup_s]; omega
          · rw [zup_a e]; exact q2
      refine zokV (s' := zup (zup s 61 f b) 62 f p) (by omega) hW' (h1 := zsi (zsi h 2 f.toNat 1 (zE b)) 2 f.toNat 2 (zE p)) ?_ hC2 ((zKp_i (fun z => z (by unfold zpc1; decide))).tr (zKp_i (fun z => z (by unfold zpc1; decide)))) (by show zce h ≤ _; omega) (by show zso h ≤ _; omega) (fun h' hM' => ?_)
      · have cG1 := hC1.2.2.2.2.2.2.2.2.2.2.1
        simp (discharger := omega) only [zm115, zE_0, zE_1, zE_2, zE_3, zE_4, zE_5, zE_6, zE_7, zE_8, zE_9, zE_10, zE_11, zE_12, zE_13, zE_14, zE_neg, zE_100, zc131, if_pos c1, if_pos c2, if_pos c3, ↓zb_s, ↓zo_12, v2, if_true, ↓zLFa cr cG, ↓zo_2, ↓zlet_s, ↓zLFa hC1.1 cG1]
      · have hM1 := hM'.ws 0 (by decide) 0
        have hM2 := hM1.wa (61, 161, 8) (by decide) f b (by omega)
        have hM3 := hM2.wa (62, 162, 8) (by decide) f p (by omega)
        refine ⟨zup (zup (zup s 0 0 0) 61 f b) 62 f p, zsc_c (zsc_c zsc_up), (zup_j (by decide)).trans ((zup_j (by decide)).trans zup_s), _, ?_, hM3, ((zKp_i (fun z => z (Or.inl rfl))).tr (zKp_i (fun z => z (Or.inr (by decide))))).tr (zKp_i (fun z => z (Or.inr (by decide)))), rfl, rfl⟩
        show zm230 (some (13, 0)) (zE f) (zE b) (zE p) h' = _
        rw [mk h' hM', zm230_51, if_neg (by rw [zE_0]; exact z1), if_pos zE_0.symm, zm230_61]
        simp (discharger := omega) only [zE_0, zE_1, zE_2, zE_3, zE_4, zE_5, zE_6, zE_7, zE_8, zE_9, zE_10, zE_11, zE_12, zE_13, zE_14, zE_neg, ↓zM_ob, ↓zlet_s, zMs0 hM1, zup_s, if_true, ↓zMa61 hM1, ↓zMa62 hM2]
  · refine zexV (t := 1) hC hW0 (by omega) (by omega) ?_ (fun h' hM' => ?_)
    · show zm115 (some (12, 0)) (zE f) (zE b) (zE p) h = some (.inr 0, zro h 1 6)
      by_cases c1 : 0 ≤ f ∧ f ≤ 7
      · by_cases c2 : 0 ≤ b ∧ b ≤ 100
        · have c3 : ¬ (-1 ≤ p ∧ p ≤ 7) := fun z => c ⟨c1, c2, z⟩
          simp (discharger := omega) only [zm115, zE_0, zE_1, zE_2, zE_3, zE_4, zE_5, zE_6, zE_7, zE_8, zE_9, zE_10, zE_11, zE_12, zE_13, zE_14, zE_neg, zE_100, zc131, if_pos c1, if_pos c2, if_neg c3, ↓zb_s, ↓zb_x]
        · simp (discharger := omega) only [zm115, zE_0, zE_1, zE_2, zE_3, zE_4, zE_5, zE_6, zE_7, zE_8, zE_9, zE_10, zE_11, zE_12, zE_13, zE_14, zE_neg, zE_100, zc131, if_pos c1, if_neg c2, ↓zb_s, ↓zb_x]
      · simp (discharger := omega) only [zm115, zE_0, zE_1, zE_2, zE_3, zE_4, zE_5, zE_6, zE_7, zE_8, zE_9, zE_10, zE_11, zE_12, zE_13, zE_14, zE_neg, zE_100, zc131, if_neg c1, ↓zb_x]
    · show zm230 (some (13, 0)) (zE f) (zE b) (zE p) h' = _
      obtain ⟨q1, r1, e1⟩ := m1 h'
      obtain ⟨q2, r2, e2⟩ := m2 h'
      obtain ⟨q3, r3, e3⟩ := m3 h'
      rcases r1 with ⟨rfl, r1⟩ | ⟨rfl, -⟩
      · rcases r2 with ⟨rfl, r2⟩ | ⟨rfl, -⟩
        · have e : ¬ p = -1 := fun z => c ⟨r1, r2, by omega⟩
          rcases r3 with ⟨rfl, r3⟩ | ⟨rfl, -⟩
          · exact absurd ⟨r1, r2, by omega⟩ c
          · simp (discharger := omega) only [zm230, e1, ↓zb_s, zE_0, zE_1, zE_2, zE_3, zE_4, zE_5, zE_6, zE_7, zE_8, zE_9, zE_10, zE_11, zE_12, zE_13, zE_14, zE_neg, zE_100, e2, e3, z1, if_false, zE_inj, e, if_true]
            exact m0 h'
        · simp (discharger := omega) only [zm230, e1, ↓zb_s, zE_0, zE_1, zE_2, zE_3, zE_4, zE_5, zE_6, zE_7, zE_8, zE_9, zE_10, zE_11, zE_12, zE_13, zE_14, zE_neg, zE_100, e2, z1, if_false, if_true]
          exact m0 h'
      · simp (discharger := omega) only [zm230, e1, ↓zb_s, zE_0, zE_1, zE_2, zE_3, zE_4, zE_5, zE_6, zE_7, zE_8, zE_9, zE_10, zE_11, zE_12, zE_13, zE_14, zE_neg, if_true]
        exact m0 h'
