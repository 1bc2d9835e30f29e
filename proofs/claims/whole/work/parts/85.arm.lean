set_option maxRecDepth 16384
/-! arm: both sides. -/
def zseat (c l : Int) : Int := (61 * c + 17 * l) % 100
theorem zseat_e {c l : Int} (c0 : 0 ≤ c) (c1 : c < 200) (l0 : 0 ≤ l) (l1 : l ≤ 2) : ((((61 : Int32) * zE c) + ((17 : Int32) * zE l)) - (((61 : Int32) * zE c) + ((17 : Int32) * zE l)) / (100 : Int32) * (100 : Int32)) = zE (zseat c l) := by
  rw [zE_61, zE_17, zE_100, zE_mul, zE_mul, zE_add, zE_rem (by omega) (by omega) (by omega) (by omega)]
  rfl
theorem zr_arm (x y : Int32) : zPrI (fun h => zm129 (some (12, 0)) x y h) (fun h => zm240 (some (13, 0)) x y h) (fun t => if t = 1 then 2 else 0) 2 := by
  refine zPrI_ro fun h s hC hM hW => ?_
  obtain ⟨e, rfl, e1, e2⟩ := zE_ex x
  obtain ⟨c, rfl, c1, c2⟩ := zE_ex y
  have z1 : ¬ zE 1 = zE 0 := by decide
  have z10 : ¬ zE 1 ≤ zE 0 := by decide
  have z20 : ¬ zE 2 ≤ zE 0 := by decide
  obtain ⟨cr, cs, -, -, -, -, -, cE, -, -, cG, cX, -⟩ := hC
  obtain ⟨wA, wK, wC, wD, wP, wR, wZ, wT, wG, wE, wM, wX⟩ := hW
  have hn := wE.1
  have m1 : ∀ h', ∃ b, zbo b (0 ≤ e ∧ e ≤ s 71 0 - 1) ∧ zm139 (zE e) (zE 0) (zE (s 71 0 - 1)) h' = some (.inl (zE b), h') := fun h' => zp139i e1 e2 (by omega) (by omega) (by omega) (by omega)
  have m2 : ∀ h', ∃ b, zbo b (0 ≤ c ∧ c ≤ 199) ∧ zm139 (zE c) (zE 0) (zE 199) h' = some (.inl (zE b), h') := fun h' => zp139i c1 c2 (by omega) (by omega) (by omega) (by omega)
  by_cases q1 : 0 ≤ e ∧ e < s 71 0
  · have m1 : ∀ h', zm139 (zE e) (zE 0) (zE (s 71 0 - 1)) h' = some (.inl (zE 1), h') := fun h' => by
      obtain ⟨b, b1, b2⟩ := m1 h'
      rwa [b1.u (zbo_1 (by omega))] at b2
    by_cases q2 : 0 ≤ c ∧ c ≤ 199
    · have m2 : ∀ h', zm139 (zE c) (zE 0) (zE 199) h' = some (.inl (zE 1), h') := fun h' => by
        obtain ⟨b, b1, b2⟩ := m2 h'
        rwa [b1.u (zbo_1 q2)] at b2
      obtain ⟨g1, g2, g3, g4, g5, g6⟩ := wE.2 e q1.1 q1.2
      have hs : 0 ≤ zseat c (s 72 e) ∧ zseat c (s 72 e) < 100 := by unfold zseat; omega
      have es := zseat_e q2.1 (show c < 200 by omega) g1.1 g1.2
      simp only [zE_61, zE_17, zE_100] at es
      have m3 : ∀ h', ∃ b, zbo b (s 74 e ≤ zseat c (s 72 e) ∧ zseat c (s 72 e) ≤ s 75 e) ∧ zm139 (zE (zseat c (s 72 e))) (zE (s 74 e)) (zE (s 75 e)) h' = some (.inl (zE b), h') := fun h' => zp139i (by omega) (by omega) (by omega) (by omega) (by omega) (by omega)
      obtain ⟨o, o1, o2⟩ := zc121 cr cG cX wG wX.2.2.2.1 (f := s 73 e) (c := c) g2.1 (by omega) q2.1 (by omega)
      by_cases k1 : s 77 e = 0
      · by_cases k2 : s 74 e ≤ zseat c (s 72 e) ∧ zseat c (s 72 e) ≤ s 75 e
        · have k2a : ¬ zseat c (s 72 e) < s 74 e := by omega
          have k2b : ¬ s 75 e < zseat c (s 72 e) := by omega
          have m4 : ∀ h', zm139 (zE (zseat c (s 72 e))) (zE (s 74 e)) (zE (s 75 e)) h' = some (.inl (zE 1), h') := fun h' => by
            obtain ⟨b, b1, b2⟩ := m3 h'
            rwa [b1.u (zbo_1 k2)] at b2
          have m5 : ∀ h', zMd h' s → zm235 (some (13, 0)) (zE (s 73 e)) (zE c) (zsi h' 13 0 0 (zE 0)) = some (.inl (zE o), zsi h' 13 0 0 (zE 0)) := fun h' hM' => by
            obtain ⟨d, d1, d2⟩ := zp235 (hM'.ws 0 (by decide) 0) (show zWg (zup s 0 0 0) from wG) (show zac (zup s 0 0 0) from wX.2.2.2.1) (f := s 73 e) (c := c) g2.1 (by omega) q2.1 (by omega)
            have : d = o := d1.u (o1.cg (zonn_e fun j hj => (by funext a; exact zup_j hj)).symm)
            rwa [this] at d2
          have k3 : ¬ s 76 e ≤ 0 := by omega
          have k3' : ¬ s 76 e = 0 := by omega
          have hz76 : ¬ zE (s 76 e) = zE 0 := by
            rw [zE_inj (by omega) (by omega) (by omega) (by omega)]
            exact k3'
          rcases o1 with ⟨rfl, -⟩ | ⟨rfl, -⟩
          · refine ⟨0, (zseat c (s 72 e) - s 74 e) % s 76 e, (zseat c (s 72 e) - s 74 e) % s 76 e, by omega, by omega, Or.inl ⟨rfl, ?_⟩, fun _ => rfl, fun h' hM' => ?_⟩
            · simp (discharger := omega) only [zm129, ↓zo_12, ↓zLEz cr cE, zc130, if_pos q1, ↓zb_s, zc131, zE_0, zE_1, zE_2, zE_3, zE_4, zE_5, zE_6, zE_7, zE_8, zE_9, zE_10, zE_11, zE_12, zE_13, zE_14, zE_neg, zE_199, if_pos q2, ↓zLEg cr cE, ↓zo_1, zCe0 cE, zE_61, zE_17, zE_100, es, ↓zlet_s, zCe5 cE, k1, if_true, zCe2 cE, zE_lt, k2a, if_false, zCe3 cE, k2b, zCe1 cE, o2, z1, zm3, zCe4 cE, zE_le, k3, zE_sub, zE_rem]
              exact (congrArg (fun x => zb x _) (zif_s hz76)).trans rfl
            · have hM1 := hM'.ws 0 (by decide) 0
              have f1 : zup s 0 0 0 72 e = s 72 e := rfl
              have f2 : zup s 0 0 0 77 e = s 77 e := rfl
              have f3 : zup s 0 0 0 74 e = s 74 e := rfl
              have f4 : zup s 0 0 0 75 e = s 75 e := rfl
              have f5 : zup s 0 0 0 73 e = s 73 e := rfl
              have f6 : zup s 0 0 0 76 e = s 76 e := rfl
              simp (discharger := omega) only [zm240, ↓zM_ob, zMs71 hM', zE_0, zE_1, zE_2, zE_3, zE_4, zE_5, zE_6, zE_7, zE_8, zE_9, zE_10, zE_11, zE_12, zE_13, zE_14, zE_neg, zE_sub, m1, ↓zb_s, z1, if_false, zE_199, m2, if_true]
              simp (discharger := omega) only [zm240_19, ↓zM_ob, zE_0, zE_1, zE_2, zE_3, zE_4, zE_5, zE_6, zE_7, zE_8, zE_9, zE_10, zE_11, zE_12, zE_13, zE_14, zE_neg, ↓zb_s, ↓zlet_s, zMs0 hM1, zup_s, Int32.le_refl, if_true, z1, if_false, ↓zMi72 hM1, f1, zE_61, zE_17, zE_100, es, ↓zMi77 hM1, f2, k1, ↓zMi74 hM1, f3, ↓zMi75 hM1, f4, m4, ↓zMi73 hM1, f5, m5 h' hM']
              simp (discharger := omega) only [zm240_65, ↓zM_ob, zE_0, zE_1, zE_2, zE_3, zE_4, zE_5, zE_6, zE_7, zE_8, zE_9, zE_10, zE_11, zE_12, zE_13, zE_14, zE_neg, if_true, z1, if_false, ↓zMi74 hM1, ↓zMi76 hM1, f3, f6, zE_sub, zE_rem]
              exact zif_s hz76
          · refine ⟨0, -1, -1, by omega, by omega, Or.inl ⟨rfl, ?_⟩, fun _ => rfl, fun h' hM' => ?_⟩
            · simp (discharger := omega) only [zm129, ↓zo_12, ↓zLEz cr cE, zc130, if_pos q1, ↓zb_s, zc131, zE_0, zE_1, zE_2, zE_3, zE_4, zE_5, zE_6, zE_7, zE_8, zE_9, zE_10, zE_11, zE_12, zE_13, zE_14, zE_neg, zE_199, if_pos q2, ↓zLEg cr cE, ↓zo_1, zCe0 cE, zE_61, zE_17, zE_100, es, ↓zlet_s, zCe5 cE, k1, if_true, zCe2 cE, zE_lt, k2a, if_false, zCe3 cE, k2b, zCe1 cE, o2]
            · have hM1 := hM'.ws 0 (by decide) 0
              have f1 : zup s 0 0 0 72 e = s 72 e := rfl
              have f2 : zup s 0 0 0 77 e = s 77 e := rfl
              have f3 : zup s 0 0 0 74 e = s 74 e := rfl
              have f4 : zup s 0 0 0 75 e = s 75 e := rfl
              have f5 : zup s 0 0 0 73 e = s 73 e := rfl
              simp (discharger := omega) only [zm240, ↓zM_ob, zMs71 hM', zE_0, zE_1, zE_2, zE_3, zE_4, zE_5, zE_6, zE_7, zE_8, zE_9, zE_10, zE_11, zE_12, zE_13, zE_14, zE_neg, zE_sub, m1, ↓zb_s, z1, if_false, zE_199, m2, if_true]
              simp (discharger := omega) only [zm240_19, ↓zM_ob, zE_0, zE_1, zE_2, zE_3, zE_4, zE_5, zE_6, zE_7, zE_8, zE_9, zE_10, zE_11, zE_12, zE_13, zE_14, zE_neg, ↓zb_s, ↓zlet_s, zMs0 hM1, zup_s, Int32.le_refl, if_true, z1, if_false, ↓zMi72 hM1, f1, zE_61, zE_17, zE_100, es, ↓zMi77 hM1, f2, k1, ↓zMi74 hM1, f3, ↓zMi75 hM1, f4, m4, ↓zMi73 hM1, f5, m5 h' hM']
              simp (discharger := omega) only [zm240_65, ↓zM_ob, zE_0, zE_1, zE_2, zE_3, zE_4, zE_5, zE_6, zE_7, zE_8, zE_9, zE_10, zE_11, zE_12, zE_13, zE_14, zE_neg, if_true, z1, if_false, ↓zMi74 hM1, ↓zMi76 hM1, zE_sub, zE_rem]
        · have m4 : ∀ h', zm139 (zE (zseat c (s 72 e))) (zE (s 74 e)) (zE (s 75 e)) h' = some (.inl (zE 0), h') := fun h' => by
            obtain ⟨b, b1, b2⟩ := m3 h'
            rwa [b1.u (zbo_0 k2)] at b2
          refine ⟨0, -1, -1, by omega, by omega, Or.inl ⟨rfl, ?_⟩, fun _ => rfl, fun h' hM' => ?_⟩
          · by_cases k2a : zseat c (s 72 e) < s 74 e
            · simp (discharger := omega) only [zm129, ↓zo_12, ↓zLEz cr cE, zc130, if_pos q1, ↓zb_s, zc131, zE_0, zE_1, zE_2, zE_3, zE_4, zE_5, zE_6, zE_7, zE_8, zE_9, zE_10, zE_11, zE_12, zE_13, zE_14, zE_neg, zE_199, if_pos q2, ↓zLEg cr cE, ↓zo_1, zCe0 cE, zE_61, zE_17, zE_100, es, ↓zlet_s, zCe5 cE, k1, if_true, zCe2 cE, zE_lt, k2a]
            · have k2b : s 75 e < zseat c (s 72 e) := by omega
              simp (discharger := omega) only [zm129, ↓zo_12, ↓zLEz cr cE, zc130, if_pos q1, ↓zb_s, zc131, zE_0, zE_1, zE_2, zE_3, zE_4, zE_5, zE_6, zE_7, zE_8, zE_9, zE_10, zE_11, zE_12, zE_13, zE_14, zE_neg, zE_199, if_pos q2, ↓zLEg cr cE, ↓zo_1, zCe0 cE, zE_61, zE_17, zE_100, es, ↓zlet_s, zCe5 cE, k1, if_true, zCe2 cE, zE_lt, k2a, if_false, zCe3 cE, k2b]
          · have hM1 := hM'.ws 0 (by decide) 0
            have f1 : zup s 0 0 0 72 e = s 72 e := rfl
            have f2 : zup s 0 0 0 77 e = s 77 e := rfl
            have f3 : zup s 0 0 0 74 e = s 74 e := rfl
            have f4 : zup s 0 0 0 75 e = s 75 e := rfl
            simp (discharger := omega) only [zm240, ↓zM_ob, zMs71 hM', zE_0, zE_1, zE_2, zE_3, zE_4, zE_5, zE_6, zE_7, zE_8, zE_9, zE_10, zE_11, zE_12, zE_13, zE_14, zE_neg, zE_sub, m1, ↓zb_s, z1, if_false, zE_199, m2, if_true]
            simp (discharger := omega) only [zm240_19, ↓zM_ob, zE_0, zE_1, zE_2, zE_3, zE_4, zE_5, zE_6, zE_7, zE_8, zE_9, zE_10, zE_11, zE_12, zE_13, zE_14, zE_neg, ↓zb_s, ↓zlet_s, zMs0 hM1, zup_s, Int32.le_refl, if_true, z1, if_false, ↓zMi72 hM1, f1, zE_61, zE_17, zE_100, es, ↓zMi77 hM1, f2, k1, ↓zMi74 hM1, f3, ↓zMi75 hM1, f4, m4]
            simp (discharger := omega) only [zm240_65, ↓zM_ob, zE_0, zE_1, zE_2, zE_3, zE_4, zE_5, zE_6, zE_7, zE_8, zE_9, zE_10, zE_11, zE_12, zE_13, zE_14, zE_neg, if_true, z1, if_false, ↓zMi74 hM1, ↓zMi76 hM1, zE_sub, zE_rem]
      · refine ⟨0, -1, -1, by omega, by omega, Or.inl ⟨rfl, ?_⟩, fun _ => rfl, fun h' hM' => ?_⟩
        · simp (discharger := omega) only [zm129, ↓zo_12, ↓zLEz cr cE, zc130, if_pos q1, ↓zb_s, zc131, zE_0, zE_1, zE_2, zE_3, zE_4, zE_5, zE_6, zE_7, zE_8, zE_9, zE_10, zE_11, zE_12, zE_13, zE_14, zE_neg, zE_199, if_pos q2, ↓zLEg cr cE, ↓zo_1, zCe0 cE, zE_61, zE_17, zE_100, es, ↓zlet_s, zCe5 cE, zE_inj, k1, if_false]
        · have hM1 := hM'.ws 0 (by decide) 0
          have f1 : zup s 0 0 0 72 e = s 72 e := rfl
          have f2 : zup s 0 0 0 77 e = s 77 e := rfl
          simp (discharger := omega) only [zm240, ↓zM_ob, zMs71 hM', zE_0, zE_1, zE_2, zE_3, zE_4, zE_5, zE_6, zE_7, zE_8, zE_9, zE_10, zE_11, zE_12, zE_13, zE_14, zE_neg, zE_sub, m1, ↓zb_s, z1, if_false, zE_199, m2, if_true]
          simp (discharger := omega) only [zm240_19, ↓zM_ob, zE_0, zE_1, zE_2, zE_3, zE_4, zE_5, zE_6, zE_7, zE_8, zE_9, zE_10, zE_11, zE_12, zE_13, zE_14, zE_neg, ↓zb_s, ↓zlet_s, zMs0 hM1, zup_s, Int32.le_refl, if_true, z1, if_false, ↓zMi72 hM1, f1, zE_61, zE_17, zE_100, es, ↓zMi77 hM1, f2, zE_inj, k1]
          simp (discharger := omega) only [zm240_65, ↓zM_ob, zE_0, zE_1, zE_2, zE_3, zE_4, zE_5, zE_6, zE_7, zE_8, zE_9, zE_10, zE_11, zE_12, zE_13, zE_14, zE_neg, if_true, z1, if_false, ↓zMi74 hM1, ↓zMi76 hM1, zE_sub, zE_rem]
    · have m2 : ∀ h', zm139 (zE c) (zE 0) (zE 199) h' = some (.inl (zE 0), h') := fun h' => by
        obtain ⟨b, b1, b2⟩ := m2 h'
        rwa [b1.u (zbo_0 q2)] at b2
      refine ⟨2, 0, 0, by omega, by omega, Or.inr ⟨by omega, 1, by omega, ?_⟩, fun _ => rfl, fun h' hM' => ?_⟩
      · simp (discharger := omega) only [zm129, ↓zo_12, ↓zLEz cr cE, zc130, if_pos q1, ↓zb_s, zc131, zE_0, zE_1, zE_2, zE_3, zE_4, zE_5, zE_6, zE_7, zE_8, zE_9, zE_10, zE_11, zE_12, zE_13, zE_14, zE_neg, zE_199, if_neg q2, ↓zb_x]
        rfl
      · have hM1 := hM'.ws 0 (by decide) 2
        simp (discharger := omega) only [zm240, zm240_19, ↓zM_ob, zMs71 hM', zE_0, zE_1, zE_2, zE_3, zE_4, zE_5, zE_6, zE_7, zE_8, zE_9, zE_10, zE_11, zE_12, zE_13, zE_14, zE_neg, zE_sub, m1, ↓zb_s, z1, if_false, zE_199, m2, ↓zlet_s, zMs0 hM1, zup_s, z20, if_true]
  · have m1 : ∀ h', zm139 (zE e) (zE 0) (zE (s 71 0 - 1)) h' = some (.inl (zE 0), h') := fun h' => by
      obtain ⟨b, b1, b2⟩ := m1 h'
      rwa [b1.u (zbo_0 (by omega))] at b2
    refine ⟨1, 0, 0, by omega, by omega, Or.inr ⟨by omega, 1, by omega, ?_⟩, fun _ => rfl, fun h' hM' => ?_⟩
    · simp (discharger := omega) only [zm129, ↓zo_12, ↓zLEz cr cE, zc130, if_neg q1, ↓zb_x]
      rfl
    · have hM1 := hM'.ws 0 (by decide) 1
      simp (discharger := omega) only [zm240, zm240_19, ↓zM_ob, zMs71 hM', zE_0, zE_1, zE_2, zE_3, zE_4, zE_5, zE_6, zE_7, zE_8, zE_9, zE_10, zE_11, zE_12, zE_13, zE_14, zE_neg, zE_sub, m1, ↓zb_s, if_true, ↓zlet_s, zMs0 hM1, zup_s, z10, if_false]
