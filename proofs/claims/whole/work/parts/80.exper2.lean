set_option maxRecDepth 16384
/-! experiment: both sides. -/
def zexP (s : zS) (a c d e : Int) : Prop := s 77 e = 0 ∧ s 72 e = a ∧ s 74 e ≤ d ∧ c ≤ s 75 e
theorem zc127 {h : zH} {s : zS} (hR : zCr h) (hC : zCE h s) (hW : zWe s) {a c d : Int} (a1 : 0 ≤ a) (a2 : a ≤ 2) (c1 : 0 ≤ c) (c2 : c ≤ 99) (d1 : c ≤ d) (d2 : d ≤ 99) : ∃ b, zbo b (zxs 0 (s 71 0) (zexP s a c d)) ∧ zm127 (some (12, 0)) (zE a) (zE c) (zE d) h = some (.inl (zE b), h) := by
  have hn := hW.1
  have z1 : ¬ zE 1 = zE 0 := by decide
  rw [zm127, zE_0]
  refine zloop0 (W := fun n i (_ : Unit) => zm127_2 n (some (12, 0)) (zE a) (zE c) (zE d) (zE i) h) (N := s 71 0) (fun i _ => ¬ zxs 0 i (zexP s a c d)) (fun r => ∃ b, zbo b (zxs 0 (s 71 0) (zexP s a c d)) ∧ r = some (.inl (zE b), h)) () zxs_n hn.1 (by omega) ?_ ?_
  · intro n _ hb
    refine ⟨0, zbo_0 hb, ?_⟩
    simp (discharger := omega) only [zm127_2, ↓zo_12, ↓zLEz hR hC, Int32.le_refl, if_true, zE_0, zE_1, zE_2, zE_3, zE_4, zE_5, zE_6, zE_7, zE_8, zE_9, zE_10, zE_11, zE_12, zE_13, zE_14, zE_neg]
  · intro n i _ h1 h2 hb
    have h3 : ¬ s 71 0 ≤ i := by omega
    obtain ⟨q1, q2, q3, q4, q5, q6⟩ := hW.2 i h1 h2
    have go : ¬ zexP s a c d i → ¬ zxs 0 (i + 1) (zexP s a c d) := fun q => by
      rw [zxs_s h1]
      exact fun z => z.elim hb q
    by_cases e1 : s 77 i = 0
    · by_cases e2 : s 72 i = a
      · by_cases e3 : d < s 74 i
        · refine Or.inr ⟨(), go fun z => by have := z.2.2.1; omega, ?_⟩
          simp (discharger := omega) only [zm127_2, zm127_30, ↓zo_12, ↓zLEz hR hC, zE_le, h3, if_false, ↓zLEg hR hC, ↓zo_1, zCe5 hC, zCe0 hC, zCe2 hC, zE_0, zE_1, zE_2, zE_3, zE_4, zE_5, zE_6, zE_7, zE_8, zE_9, zE_10, zE_11, zE_12, zE_13, zE_14, zE_neg, e1, if_true, e2, zE_lt, e3, ↓zlet_s, zE_add]
        · by_cases e4 : s 75 i < c
          · refine Or.inr ⟨(), go fun z => by have := z.2.2.2; omega, ?_⟩
            simp (discharger := omega) only [zm127_2, zm127_30, ↓zo_12, ↓zLEz hR hC, zE_le, h3, if_false, ↓zLEg hR hC, ↓zo_1, zCe5 hC, zCe0 hC, zCe2 hC, zCe3 hC, zE_0, zE_1, zE_2, zE_3, zE_4, zE_5, zE_6, zE_7, zE_8, zE_9, zE_10, zE_11, zE_12, zE_13, zE_14, zE_neg, e1, if_true, e2, zE_lt, e3, e4, ↓zlet_s, zE_add]
          · refine Or.inl ⟨1, zbo_1 ⟨i, h1, h2, e1, e2, by omega, by omega⟩, ?_⟩
            simp (discharger := omega) only [zm127_2, zm127_30, ↓zo_12, ↓zLEz hR hC, zE_le, h3, if_false, ↓zLEg hR hC, ↓zo_1, zCe5 hC, zCe0 hC, zCe2 hC, zCe3 hC, zE_0, zE_1, zE_2, zE_3, zE_4, zE_5, zE_6, zE_7, zE_8, zE_9, zE_10, zE_11, zE_12, zE_13, zE_14, zE_neg, e1, if_true, e2, zE_lt, e3, e4]
      · refine Or.inr ⟨(), go fun z => e2 z.2.1, ?_⟩
        simp (discharger := omega) only [zm127_2, zm127_30, ↓zo_12, ↓zLEz hR hC, zE_le, h3, if_false, ↓zLEg hR hC, ↓zo_1, zCe5 hC, zCe0 hC, zE_0, zE_1, zE_2, zE_3, zE_4, zE_5, zE_6, zE_7, zE_8, zE_9, zE_10, zE_11, zE_12, zE_13, zE_14, zE_neg, e1, if_true, zE_inj, e2, ↓zlet_s, zE_add]
    · refine Or.inr ⟨(), go fun z => e1 z.1, ?_⟩
      simp (discharger := omega) only [zm127_2, zm127_30, ↓zo_12, ↓zLEz hR hC, zE_le, h3, if_false, ↓zLEg hR hC, ↓zo_1, zCe5 hC, zE_0, zE_1, zE_2, zE_3, zE_4, zE_5, zE_6, zE_7, zE_8, zE_9, zE_10, zE_11, zE_12, zE_13, zE_14, zE_neg, zE_inj, e1, ↓zlet_s, zE_add]
theorem zp238_31 {h : zH} {s : zS} (hM : zMd h s) (hW : zWe s) {a c d : Int} {x2 x5 x6 : Int32} {k : zq → Int32 → Int32 → Int32 → Int32 → Int32 → Int32 → Int32 → zH → zRs Int32} (a1 : -2147483648 ≤ a) (a2 : a < 2147483648) (c1 : -2147483648 ≤ c) (c2 : c < 2147483648) (d1 : -2147483648 ≤ d) (d2 : d < 2147483648) : ∃ t, zbo t (¬ zxs 0 (s 71 0) (zexP s a c d)) ∧ zm238_31 k zN0 (some (13, 0)) (zE a) x2 (zE c) (zE d) x5 x6 (zE 1) (zE 0) h = k (some (13, 0)) (zE a) x2 (zE c) (zE d) x5 x6 (zE t) h := by
  have hn := hW.1
  have z1 : ¬ zE 1 = zE 0 := by decide
  refine zloop0 (W := fun n i t => zm238_31 k n (some (13, 0)) (zE a) x2 (zE c) (zE d) x5 x6 (zE t) (zE i) h) (N := s 71 0) (fun i t => zbo t (¬ zxs 0 i (zexP s a c d))) (fun r => ∃ t, zbo t (¬ zxs 0 (s 71 0) (zexP s a c d)) ∧ r = k (some (13, 0)) (zE a) x2 (zE c) (zE d) x5 x6 (zE t) h) 1 (zbo_1 zxs_n) hn.1 (by omega) ?_ ?_
  · intro n t hb
    refine ⟨t, hb, ?_⟩
    simp (discharger := omega) only [zm238_31, ↓zM_ob, zMs71 hM, Int32.le_refl, if_true]
  · intro n i t h1 h2 hb
    have h3 : ¬ s 71 0 ≤ i := by omega
    obtain ⟨q1, q2, q3, q4, q5, q6⟩ := hW.2 i h1 h2
    rcases hb with ⟨rfl, hb⟩ | ⟨rfl, hb⟩
    · have go : ¬ zexP s a c d i → zbo 1 (¬ zxs 0 (i + 1) (zexP s a c d)) := fun q => zbo_1 (by
        rw [zxs_s h1]
        exact fun z => z.elim hb q)
      by_cases e1 : s 77 i = 0
      · by_cases e2 : s 72 i = a
        · by_cases e3 : d < s 74 i
          · refine Or.inr ⟨1, go fun z => by have := z.2.2.1; omega, ?_⟩
            simp (discharger := omega) only [zm238_31, zm238_63, ↓zM_ob, zMs71 hM, zE_le, h3, if_false, zE_0, zE_1, zE_2, zE_3, zE_4, zE_5, zE_6, zE_7, zE_8, zE_9, zE_10, zE_11, zE_12, zE_13, zE_14, zE_neg, z1, ↓zMi77 hM, e1, if_true, ↓zMi72 hM, e2, ↓zMi74 hM, zE_lt, e3, ↓zlet_s, zE_add]
          · by_cases e4 : c ≤ s 75 i
            · refine Or.inr ⟨0, zbo_0 fun z => z ((zxs_s h1).mpr (Or.inr ⟨e1, e2, by omega, by omega⟩)), ?_⟩
              simp (discharger := omega) only [zm238_31, zm238_63, ↓zM_ob, zMs71 hM, zE_le, h3, if_false, zE_0, zE_1, zE_2, zE_3, zE_4, zE_5, zE_6, zE_7, zE_8, zE_9, zE_10, zE_11, zE_12, zE_13, zE_14, zE_neg, z1, ↓zMi77 hM, e1, if_true, ↓zMi72 hM, e2, ↓zMi74 hM, ↓zMi75 hM, zE_lt, e3, e4, ↓zlet_s, zE_add]
            · refine Or.inr ⟨1, go fun z => e4 z.2.2.2, ?_⟩
              simp (discharger := omega) only [zm238_31, zm238_63, ↓zM_ob, zMs71 hM, zE_le, h3, if_false, zE_0, zE_1, zE_2, zE_3, zE_4, zE_5, zE_6, zE_7, zE_8, zE_9, zE_10, zE_11, zE_12, zE_13, zE_14, zE_neg, z1, ↓zMi77 hM, e1, if_true, ↓zMi72 hM, e2, ↓zMi74 hM, ↓zMi75 hM, zE_lt, e3, e4, ↓zlet_s, zE_add]
        · refine Or.inr ⟨1, go fun z => e2 z.2.1, ?_⟩
          simp (discharger := omega) only [zm238_31, zm238_63, ↓zM_ob, zMs71 hM, zE_le, h3, if_false, zE_0, zE_1, zE_2, zE_3, zE_4, zE_5, zE_6, zE_7, zE_8, zE_9, zE_10, zE_11, zE_12, zE_13, zE_14, zE_neg, z1, ↓zMi77 hM, e1, if_true, ↓zMi72 hM, zE_inj, e2, ↓zlet_s, zE_add]
      · refine Or.inr ⟨1, go fun z => e1 z.1, ?_⟩
        simp (discharger := omega) only [zm238_31, zm238_63, ↓zM_ob, zMs71 hM, zE_le, h3, if_false, zE_0, zE_1, zE_2, zE_3, zE_4, zE_5, zE_6, zE_7, zE_8, zE_9, zE_10, zE_11, zE_12, zE_13, zE_14, zE_neg, z1, ↓zMi77 hM, zE_inj, e1, ↓zlet_s, zE_add]
    · refine Or.inr ⟨0, zbo_0 fun z => hb fun y => z ((zxs_s h1).mpr (Or.inl y)), ?_⟩
      simp (discharger := omega) only [zm238_31, zm238_63, ↓zM_ob, zMs71 hM, zE_le, h3, if_false, zE_0, zE_1, zE_2, zE_3, zE_4, zE_5, zE_6, zE_7, zE_8, zE_9, zE_10, zE_11, zE_12, zE_13, zE_14, zE_neg, if_true, ↓zlet_s, zE_add]
theorem zp238_x {x1 x2 x3 x4 x5 : Int32} {t : Int} {h : zH} (t1 : 1 ≤ t) (t2 : t ≤ 2) : zm238_80 (some (13, 0)) x1 x2 x3 x4 x5 (some (13, 0)) (zE t) h = some (.inl (zE 0), zsi h 13 0 0 (zE t)) := by
  rw [zm238_80, zM_ob, zlet_s, zM_ob, if_neg, zE_0]
  rw [zi_s, zE_0, zE_le (by omega) (by omega) (by omega) (by omega)]
  omega
theorem zr_experiment (x y z w u : Int32) : zPrI (fun h => zm126 (some (12, 0)) x y z w u h) (fun h => zm238 (some (13, 0)) x y z w u h) (fun t => if t = 1 then 0 else 1) 2 := by
  intro h s hC hM hW
  obtain ⟨a, rfl, a1, a2⟩ := zE_ex x
  obtain ⟨b, rfl, b1, b2⟩ := zE_ex y
  obtain ⟨c, rfl, c1, c2⟩ := zE_ex z
  obtain ⟨d, rfl, d1, d2⟩ := zE_ex w
  obtain ⟨g, rfl, g1, g2⟩ := zE_ex u
  have z1 : ¬ zE 1 = zE 0 := by decide
  have cr := hC.1
  have cE := hC.2.2.2.2.2.2.2.1
  have cN := hC.2.2.2.2.2.2.2.2.2.2.2.2.2
  have hW0 := hW
  obtain ⟨wA, wK, wC, wD, wP, wR, wZ, wT, wG, wE, wM, wX⟩ := hW
  have hn := wE.1
  have m1 : ∀ h', ∃ p, zbo p (0 ≤ a ∧ a ≤ 2) ∧ zm139 (zE a) (zE 0) (zE 2) h' = some (.inl (zE p), h') := fun h' => zp139i a1 a2 (by omega) (by omega) (by omega) (by omega)
  have m2 : ∀ h', ∃ p, zbo p (0 ≤ b ∧ b ≤ 7) ∧ zm229 (zE b) h' = some (.inl (zE p), h') := fun h' => zp229 b1 b2
  have m3 : ∀ h', ∃ p, zbo p (0 ≤ c ∧ c ≤ 99) ∧ zm139 (zE c) (zE 0) (zE 99) h' = some (.inl (zE p), h') := fun h' => zp139i c1 c2 (by omega) (by omega) (by omega) (by omega)
  have m4 : ∀ h', ∃ p, zbo p (c ≤ d ∧ d ≤ 99) ∧ zm139 (zE d) (zE c) (zE 99) h' = some (.inl (zE p), h') := fun h' => zp139i d1 d2 c1 c2 (by omega) (by omega)
  have m5 : ∀ h', ∃ p, zbo p (2 ≤ g ∧ g ≤ 4) ∧ zm139 (zE g) (zE 2) (zE 4) h' = some (.inl (zE p), h') := fun h' => zp139i g1 g2 (by omega) (by omega) (by omega) (by omega)
  have lp : ∀ h', zMd h' s → ∀ (x6 : Int32), ∃ t, zbo t (¬ zxs 0 (s 71 0) (zexP s a c d)) ∧ zm238_31 zm238_66 zN0 (some (13, 0)) (zE a) (zE b) (zE c) (zE d) (zE g) x6 (zE 1) (zE 0) h' = zm238_66 (some (13, 0)) (zE a) (zE b) (zE c) (zE d) (zE g) x6 (zE t) h' := fun h' hM' x6 => zp238_31 hM' wE a1 a2 c1 c2 d1 d2
  by_cases q : (0 ≤ a ∧ a ≤ 2) ∧ (0 ≤ b ∧ b ≤ 7) ∧ (0 ≤ c ∧ c ≤ 99) ∧ (c ≤ d ∧ d ≤ 99) ∧ 2 ≤ g ∧ g ≤ 4
  · obtain ⟨q1, q2, q3, q4, q5⟩ := q
    have m1 : ∀ h', zm139 (zE a) (zE 0) (zE 2) h' = some (.inl (zE 1), h') := fun h' => by
      obtain ⟨p, p1, p2⟩ := m1 h'
      rwa [p1.u (zbo_1 q1)] at p2
    have m2 : ∀ h', zm229 (zE b) h' = some (.inl (zE 1), h') := fun h' => by
      obtain ⟨p, p1, p2⟩ := m2 h'
      rwa [p1.u (zbo_1 q2)] at p2
    have m3 : ∀ h', zm139 (zE c) (zE 0) (zE 99) h' = some (.inl (zE 1), h') := fun h' => by
      obtain ⟨p, p1, p2⟩ := m3 h'
      rwa [p1.u (zbo_1 q3)] at p2
    have m4 : ∀ h', zm139 (zE d) (zE c) (zE 99) h' = some (.inl (zE 1), h') := fun h' => by
      obtain ⟨p, p1, p2⟩ := m4 h'
      rwa [p1.u (zbo_1 q4)] at p2
    have m5 : ∀ h', zm139 (zE g) (zE 2) (zE 4) h' = some (.inl (zE 1), h') := fun h' => by
      obtain ⟨p, p1, p2⟩ := m5 h'
      rwa [p1.u (zbo_1 q5)] at p2
    obtain ⟨v, v1, v2⟩ := zc127 cr cE wE q1.1 q1.2 q3.1 q3.2 q4.1 q4.2
    have hx : (s 71 0 = 8 ∨ zxs 0 (s 71 0) (zexP s a c d)) → ∀ h', zMd h' s → zm238 (some (13, 0)) (zE a) (zE b) (zE c) (zE d) (zE g) h' = some (.inl (zE 0), zsi h' 13 0 0 (zE 2)) := fun hy h' hM' => by
      obtain ⟨t, t1, t2⟩ := lp h' hM' (zE 1)
      simp (discharger := omega) only [zm238, zm238_26, zE_0, zE_1, zE_2, zE_3, zE_4, zE_5, zE_6, zE_7, zE_8, zE_9, zE_10, zE_11, zE_12, zE_13, zE_14, zE_neg, zE_99, m1, m2, m3, m4, m5, ↓zb_s, z1, if_false, t2]
      by_cases c8 : s 71 0 = 8
      · simp (discharger := omega) only [zm238_66, ↓zM_ob, zMs71 hM', zE_0, zE_1, zE_2, zE_3, zE_4, zE_5, zE_6, zE_7, zE_8, zE_9, zE_10, zE_11, zE_12, zE_13, zE_14, zE_neg, c8, z1, if_false, if_true]
        exact zp238_x (t := 2) (by omega) (by omega)
      · rcases t1 with ⟨rfl, t1⟩ | ⟨rfl, -⟩
        · exact absurd (hy.resolve_left c8) t1
        · simp (discharger := omega) only [zm238_66, ↓zM_ob, zMs71 hM', zE_0, zE_1, zE_2, zE_3, zE_4, zE_5, zE_6, zE_7, zE_8, zE_9, zE_10, zE_11, zE_12, zE_13, zE_14, zE_neg, zE_inj, c8, if_false, if_true]
          exact zp238_x (t := 2) (by omega) (by omega)
    by_cases c8 : s 71 0 = 8
    · refine zexI (t := 2) hC hW0 (by omega) (by omega) ?_ (hx (Or.inl c8))
      simp (discharger := omega) only [zm126, zE_0, zE_1, zE_2, zE_3, zE_4, zE_5, zE_6, zE_7, zE_8, zE_9, zE_10, zE_11, zE_12, zE_13, zE_14, zE_neg, zE_99, zc131, if_pos q1, if_pos q2, if_pos q3, if_pos q4, if_pos q5, ↓zb_s, ↓zo_12, ↓zLEz cr cE, c8, Int32.le_refl, if_true]
      rfl
    · have c7 : ¬ 8 ≤ s 71 0 := by omega
      rcases v1 with ⟨rfl, v1⟩ | ⟨rfl, v1⟩
      · refine zexI (t := 2) hC hW0 (by omega) (by omega) ?_ (hx (Or.inr v1))
        simp (discharger := omega) only [zm126, zE_0, zE_1, zE_2, zE_3, zE_4, zE_5, zE_6, zE_7, zE_8, zE_9, zE_10, zE_11, zE_12, zE_13, zE_14, zE_neg, zE_99, zc131, if_pos q1, if_pos q2, if_pos q3, if_pos q4, if_pos q5, ↓zb_s, ↓zo_12, ↓zLEz cr cE, zE_le, c7, if_false, v2, z1]
        rfl
      · have hC' := zxpH_C (a := a) (b := b) (c := c) (d := d) (g := g) hC hW0 (by omega)
        have hl := cE.1.2
        have hq := cN.2.2.2.2.2.2.2.2.2.2.2.1
        obtain ⟨cc, nn, hc1, hn1, he⟩ := zladd_e (h := zxpH h a b c d g) (k := 19) (k2 := 1) (i2 := zct h 1) (show zln h 19 0 < 33 by omega)
        have hC2 : zCl (zladd (zxpH h a b c d g) 19 0 1 (zct h 1)) (zxpS s a b c d g) := by
          rw [he]
          exact hC'.kp zKp_o
        have hK2 : zKp (fun k => ¬ zpc1 k) h (zladd (zxpH h a b c d g) 19 0 1 (zct h 1)) := by
          rw [he]
          exact zKp.tr (zxpH_k _ (fun z => z (by unfold zpc1; decide)) (fun z => z (by unfold zpc1; decide))) zKp_o
        have s77 : s 77 (s 71 0) = 0 := wX.2.2.2.2.2.2.1 _ (Int.le_refl _) (by omega)
        have hW' : zWf (zxpS s a b c d g) := by
          refine ⟨wA, wK, wC, wD, wP, wR, wZ, wT, wG, ⟨?_, fun u u0 u1 => ?_⟩, wM, wX.1, wX.2.1, wX.2.2.1, wX.2.2.2.1, wX.2.2.2.2.1, wX.2.2.2.2.2.1, fun u u0 u1 => ?_, wX.2.2.2.2.2.2.2⟩
          · rw [zxpS_71]; omega
          · rw [zxpS_71] at u1
            show _ ∧ _ ∧ _ ∧ _ ∧ _ ∧ 0 ≤ s 77 u ∧ s 77 u ≤ 1
            by_cases e : u = s 71 0
            · obtain ⟨f1, f2, f3, f4, f5⟩ := zxpS_n (s := s) (a := a) (b := b) (c := c) (d := d) (g := g)
              rw [e, f1, f2, f3, f4, f5, s77]; omega
            · obtain ⟨f1, f2, f3, f4, f5⟩ := zxpS_o (a := a) (b := b) (c := c) (d := d) (g := g) e
              rw [f1, f2, f3, f4, f5]; exact wE.2 u u0 (by omega)
          · rw [zxpS_71] at u0
            exact wX.2.2.2.2.2.2.1 u (by omega) u1
        refine zokI (v := s 71 0) (by omega) hW' (h1 := zladd (zxpH h a b c d g) 19 0 1 (zct h 1)) ?_ hC2 hK2 ?_ ?_ (fun h' hM' => ?_)
        · have g1 : zelB (zxpH h a b c d g) 19 0 = true := zel_t 1 ⟨rfl, rfl⟩ fun j hj => by
            have := (cE.2 (j : Int) (by omega) (by have : j < zln h 19 0 := hj; omega)).1
            exact this
          have g2 : zi (zxpH h a b c d g) 19 0 1 = 1 := cE.1.1
          have g3 : zln (zxpH h a b c d g) 19 0 < 33 := show zln h 19 0 < 33 by omega
          have g4 : (zm2 (some (1, zct h 1)) (zE a) (zE b) (zE c) (zE d) (zE g) (znw h 1 0 6)) = some (.inl (), zxpH h a b c d g) := by
            rw [zm2, znn_s, zo_1, zlet_s, zlet_s, zlet_s, zlet_s, zlet_s]
            rfl
          simp (discharger := omega) only [zm126, zE_0, zE_1, zE_2, zE_3, zE_4, zE_5, zE_6, zE_7, zE_8, zE_9, zE_10, zE_11, zE_12, zE_13, zE_14, zE_neg, zE_99, zc131, if_pos q1, if_pos q2, if_pos q3, if_pos q4, if_pos q5, ↓zb_s, ↓zo_12, ↓zLEz cr cE, zE_le, c7, if_false, v2, if_true]
          rw [zlet_s, zo_1, g4, zb2_s, zCr5 cr, znn_s, znn_s, zif_s (by rw [g1]; rfl), zif_s ⟨by rw [g2, zE_1], g3⟩, zlet_s, zLEz hC2.1 hC2.2.2.2.2.2.2.2.1, zxpS_71, zE_sub]
          congr 4
          omega
        · rw [he]
          show zce h + 1 + cc ≤ _
          omega
        · rw [he]
          show zso h + 6 + nn ≤ _
          omega
        · have hM1 := hM'.ws 0 (by decide) 0
          have hM2 := hM1.wa (72, 172, 8) (by decide) (s 71 0) a (by omega)
          have hM3 := hM2.wa (73, 173, 8) (by decide) (s 71 0) b (by omega)
          have hM4 := hM3.wa (74, 174, 8) (by decide) (s 71 0) c (by omega)
          have hM5 := hM4.wa (75, 175, 8) (by decide) (s 71 0) d (by omega)
          have hM6 := hM5.wa (76, 176, 8) (by decide) (s 71 0) g (by omega)
          have hM7 := hM6.ws 71 (by decide) (s 71 0 + 1)
          refine ⟨_, zsc_c (zsc_c (zsc_c (zsc_c (zsc_c (zsc_c zsc_up))))), ((zup_j (by decide)).trans ((zup_j (by decide)).trans ((zup_j (by decide)).trans ((zup_j (by decide)).trans ((zup_j (by decide)).trans ((zup_j (by decide)).trans zup_s)))))), _, ?_, hM7, ((((((zKp_i (fun z => z (Or.inl rfl))).tr (zKp_i (fun z => z (Or.inr (by decide))))).tr (zKp_i (fun z => z (Or.inr (by decide))))).tr (zKp_i (fun z => z (Or.inr (by decide))))).tr (zKp_i (fun z => z (Or.inr (by decide))))).tr (zKp_i (fun z => z (Or.inr (by decide))))).tr (zKp_i (fun z => z (Or.inl rfl))), rfl, rfl⟩
          show zm238 (some (13, 0)) (zE a) (zE b) (zE c) (zE d) (zE g) h' = _
          obtain ⟨t, t1, t2⟩ := lp h' hM' (zE 1)
          rcases t1 with ⟨rfl, -⟩ | ⟨rfl, t1⟩
          · have e1 : zup s 0 0 0 71 0 = s 71 0 := rfl
            have e2 : zup (zup s 0 0 0) 72 (s 71 0) a 71 0 = s 71 0 := rfl
            have e3 : zup (zup (zup s 0 0 0) 72 (s 71 0) a) 73 (s 71 0) b 71 0 = s 71 0 := rfl
            have e4 : zup (zup (zup (zup s 0 0 0) 72 (s 71 0) a) 73 (s 71 0) b) 74 (s 71 0) c 71 0 = s 71 0 := rfl
            have e5 : zup (zup (zup (zup (zup s 0 0 0) 72 (s 71 0) a) 73 (s 71 0) b) 74 (s 71 0) c) 75 (s 71 0) d 71 0 = s 71 0 := rfl
            have e6 : zup (zup (zup (zup (zup (zup s 0 0 0) 72 (s 71 0) a) 73 (s 71 0) b) 74 (s 71 0) c) 75 (s 71 0) d) 76 (s 71 0) g 71 0 = s 71 0 := rfl
            simp (discharger := omega) only [zm238, zm238_26, zE_0, zE_1, zE_2, zE_3, zE_4, zE_5, zE_6, zE_7, zE_8, zE_9, zE_10, zE_11, zE_12, zE_13, zE_14, zE_neg, zE_99, m1, m2, m3, m4, m5, ↓zb_s, z1, if_false, t2]
            simp (discharger := omega) only [zm238_66, zm238_80, ↓zM_ob, zE_0, zE_1, zE_2, zE_3, zE_4, zE_5, zE_6, zE_7, zE_8, zE_9, zE_10, zE_11, zE_12, zE_13, zE_14, zE_neg, z1, if_false, zMs71 hM', zE_inj, c8, ↓zlet_s, zMs0 hM1, zup_s, Int32.le_refl, if_true, zMs71 hM1, e1, ↓zMa72 hM1, zMs71 hM2, e2, ↓zMa73 hM2, zMs71 hM3, e3, ↓zMa74 hM3, zMs71 hM4, e4, ↓zMa75 hM4, zMs71 hM5, e5, ↓zMa76 hM5, zMs71 hM6, e6, zE_add, zMs71 hM7, zE_sub]
            congr 4
            omega
          · exact absurd v1 t1
  · refine zexI (t := 1) hC hW0 (by omega) (by omega) ?_ (fun h' hM' => ?_)
    · show zm126 (some (12, 0)) (zE a) (zE b) (zE c) (zE d) (zE g) h = some (.inr 0, zro h 1 6)
      by_cases q1 : 0 ≤ a ∧ a ≤ 2
      · by_cases q2 : 0 ≤ b ∧ b ≤ 7
        · by_cases q3 : 0 ≤ c ∧ c ≤ 99
          · by_cases q4 : c ≤ d ∧ d ≤ 99
            · have q5 : ¬ (2 ≤ g ∧ g ≤ 4) := fun z => q ⟨q1, q2, q3, q4, z⟩
              simp (discharger := omega) only [zm126, zE_0, zE_1, zE_2, zE_3, zE_4, zE_5, zE_6, zE_7, zE_8, zE_9, zE_10, zE_11, zE_12, zE_13, zE_14, zE_neg, zE_99, zc131, if_pos q1, if_pos q2, if_pos q3, if_pos q4, if_neg q5, ↓zb_s, ↓zb_x]
            · simp (discharger := omega) only [zm126, zE_0, zE_1, zE_2, zE_3, zE_4, zE_5, zE_6, zE_7, zE_8, zE_9, zE_10, zE_11, zE_12, zE_13, zE_14, zE_neg, zE_99, zc131, if_pos q1, if_pos q2, if_pos q3, if_neg q4, ↓zb_s, ↓zb_x]
          · simp (discharger := omega) only [zm126, zE_0, zE_1, zE_2, zE_3, zE_4, zE_5, zE_6, zE_7, zE_8, zE_9, zE_10, zE_11, zE_12, zE_13, zE_14, zE_neg, zE_99, zc131, if_pos q1, if_pos q2, if_neg q3, ↓zb_s, ↓zb_x]
        · simp (discharger := omega) only [zm126, zE_0, zE_1, zE_2, zE_3, zE_4, zE_5, zE_6, zE_7, zE_8, zE_9, zE_10, zE_11, zE_12, zE_13, zE_14, zE_neg, zE_99, zc131, if_pos q1, if_neg q2, ↓zb_s, ↓zb_x]
      · simp (discharger := omega) only [zm126, zE_0, zE_1, zE_2, zE_3, zE_4, zE_5, zE_6, zE_7, zE_8, zE_9, zE_10, zE_11, zE_12, zE_13, zE_14, zE_neg, zE_99, zc131, if_neg q1, ↓zb_x]
    · show zm238 (some (13, 0)) (zE a) (zE b) (zE c) (zE d) (zE g) h' = _
      obtain ⟨p1, r1, m1⟩ := m1 h'
      obtain ⟨p2, r2, m2⟩ := m2 h'
      obtain ⟨p3, r3, m3⟩ := m3 h'
      obtain ⟨p4, r4, m4⟩ := m4 h'
      obtain ⟨p5, r5, m5⟩ := m5 h'
      have nx : zm238_26 (some (13, 0)) (zE a) (zE b) (zE c) (zE d) (zE g) (zE 0) h' = some (.inl (zE 0), zsi h' 13 0 0 (zE 1)) := by
        obtain ⟨t, t1, t2⟩ := lp h' hM' (zE 0)
        rw [zm238_26, zE_1, zE_0, t2, zm238_66, if_pos zE_0.symm, zE_1]
        exact zp238_x (t := 1) (by omega) (by omega)
      rcases r1 with ⟨rfl, r1⟩ | ⟨rfl, -⟩
      · rcases r2 with ⟨rfl, r2⟩ | ⟨rfl, -⟩
        · rcases r3 with ⟨rfl, r3⟩ | ⟨rfl, -⟩
          · rcases r4 with ⟨rfl, r4⟩ | ⟨rfl, -⟩
            · rcases r5 with ⟨rfl, r5⟩ | ⟨rfl, -⟩
              · exact absurd ⟨r1, r2, r3, r4, r5⟩ q
              · simp (discharger := omega) only [zm238, zE_0, zE_1, zE_2, zE_3, zE_4, zE_5, zE_6, zE_7, zE_8, zE_9, zE_10, zE_11, zE_12, zE_13, zE_14, zE_neg, zE_99, m1, m2, m3, m4, m5, ↓zb_s, z1, if_false, if_true, nx]
            · simp (discharger := omega) only [zm238, zE_0, zE_1, zE_2, zE_3, zE_4, zE_5, zE_6, zE_7, zE_8, zE_9, zE_10, zE_11, zE_12, zE_13, zE_14, zE_neg, zE_99, m1, m2, m3, m4, ↓zb_s, z1, if_false, if_true, nx]
          · simp (discharger := omega) only [zm238, zE_0, zE_1, zE_2, zE_3, zE_4, zE_5, zE_6, zE_7, zE_8, zE_9, zE_10, zE_11, zE_12, zE_13, zE_14, zE_neg, zE_99, m1, m2, m3, ↓zb_s, z1, if_false, if_true, nx]
        · simp (discharger := omega) only [zm238, zE_0, zE_1, zE_2, zE_3, zE_4, zE_5, zE_6, zE_7, zE_8, zE_9, zE_10, zE_11, zE_12, zE_13, zE_14, zE_neg, zE_99, m1, m2, ↓zb_s, z1, if_false, if_true, nx]
      · simp (discharger := omega) only [zm238, zE_0, zE_1, zE_2, zE_3, zE_4, zE_5, zE_6, zE_7, zE_8, zE_9, zE_10, zE_11, zE_12, zE_13, zE_14, zE_neg, zE_99, m1, ↓zb_s, if_true, nx]
