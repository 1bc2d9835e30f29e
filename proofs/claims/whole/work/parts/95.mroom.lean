set_option maxRecDepth 16384
/-! Whether there is room: the model's side. -/
theorem zp166z {h : zH} {sh : Int} (h1 : 1 ≤ sh) (h2 : sh ≤ 100) : zm166 (zE sh) h = some (.inl (zE (zpf sh)), h) := by
  rw [zp166 (by omega) h2]
  unfold zpf
  rw [if_neg (show ¬ sh = 0 by omega)]
  by_cases e : sh ≤ 50
  · rw [if_pos e, if_neg (by omega)]
  · rw [if_neg e, if_pos (by omega)]
theorem zp168_91 {h : zH} {s : zS} (hM : zMd h s) (hA : zWa s) (hK : zWk s) {k44 : zq → Int32 → Int32 → Int32 → Int32 → Int32 → Int32 → Int32 → Int32 → Int32 → Int32 → zH → zRs Int32} {v g q i B A t : Int} {x4 x6 x7 x8 x9 : Int32} (v0 : 0 ≤ v) (v1 : v < 4) (g0 : 0 ≤ g) (g1 : g < 3) (i0 : 0 ≤ i) (i1 : i < 3) (hq : q = 0 ∨ q = 1) :
    zm168_91 k44 (some (13, 0)) (zE g) (zE q) x4 x6 x7 x8 x9 (zE B) (zE A) (zE i) (zE (3 * v + i)) (zE t) h = k44 (some (13, 0)) (zE g) (zE q) x4 x6 x7 x8 x9 (zE (if i = g then B + ((t - zpf (s 14 (3 * v + i))) + (if q = 0 ∧ s 12 (3 * v + i) = -1 then 2 else 0)) else B)) (zE (A + t)) (zE (i + 1)) h := by
  have hn := hA.1
  have z1 : ¬ zE 1 = zE 0 := by decide
  obtain ⟨q1, q2, q3, q4, q5, q6⟩ := hK (3 * v + i) (by omega) (by omega)
  by_cases e1 : i = g
  · rw [if_pos e1]
    have f114 : ∀ u : Int, zm168_114 k44 (some (13, 0)) (zE g) (zE q) x4 x6 x7 x8 x9 (zE (A + t)) (zE i) (zE (3 * v + i)) (zE B) (zE t) (zE u) h = k44 (some (13, 0)) (zE g) (zE q) x4 x6 x7 x8 x9 (zE (B + ((t - u) + (if q = 0 ∧ s 12 (3 * v + i) = -1 then 2 else 0)))) (zE (A + t)) (zE (i + 1)) h := fun u => by
      rcases hq with rfl | rfl
      · by_cases e2 : s 12 (3 * v + i) = -1
        · rw [if_pos ⟨rfl, e2⟩]
          simp (discharger := omega) only [zm168_114, zm168_126, zm168_129, zE_0, zE_1, zE_2, zE_3, zE_4, zE_5, zE_6, zE_7, zE_8, zE_9, zE_10, zE_11, zE_12, zE_13, zE_14, zE_neg, if_true, ↓zM_ob, ↓zMi12 hM, e2, ↓zlet_s, zE_sub, zE_add]
        · rw [if_neg fun z => e2 z.2]
          simp (discharger := omega) only [zm168_114, zm168_126, zm168_129, zE_0, zE_1, zE_2, zE_3, zE_4, zE_5, zE_6, zE_7, zE_8, zE_9, zE_10, zE_11, zE_12, zE_13, zE_14, zE_neg, if_true, ↓zM_ob, ↓zMi12 hM, zE_inj, e2, if_false, ↓zlet_s, zE_sub, zE_add]
      · rw [if_neg fun z => absurd z.1 (by decide)]
        simp (discharger := omega) only [zm168_114, zm168_126, zm168_129, zE_0, zE_1, zE_2, zE_3, zE_4, zE_5, zE_6, zE_7, zE_8, zE_9, zE_10, zE_11, zE_12, zE_13, zE_14, zE_neg, z1, if_false, ↓zlet_s, zE_sub, zE_add]
    by_cases e2 : s 13 (3 * v + i) = -1
    · have hz : zpf (s 14 (3 * v + i)) = 0 := by
        rw [q4.mp e2]
        rfl
      rw [hz, ← f114 0]
      subst e1
      simp (discharger := omega) only [zm168_91, ↓zlet_s, zE_add, if_true, ↓zM_ob, ↓zMi13 hM, e2, zE_0, zE_1, zE_2, zE_3, zE_4, zE_5, zE_6, zE_7, zE_8, zE_9, zE_10, zE_11, zE_12, zE_13, zE_14, zE_neg]
    · have h14 : s 14 (3 * v + i) ≠ 0 := fun z => e2 (q4.mpr z)
      rw [← f114 (zpf (s 14 (3 * v + i)))]
      subst e1
      simp (discharger := omega) only [zm168_91, ↓zlet_s, zE_add, if_true, ↓zM_ob, ↓zMi13 hM, zE_0, zE_1, zE_2, zE_3, zE_4, zE_5, zE_6, zE_7, zE_8, zE_9, zE_10, zE_11, zE_12, zE_13, zE_14, zE_neg, zE_inj, e2, if_false, ↓zMi14 hM, zp166z, ↓zb_s]
  · rw [if_neg e1]
    simp (discharger := omega) only [zm168_91, zm168_129, ↓zlet_s, zE_add, zE_inj, e1, if_false, zE_0, zE_1, zE_2, zE_3, zE_4, zE_5, zE_6, zE_7, zE_8, zE_9, zE_10, zE_11, zE_12, zE_13, zE_14, zE_neg]
theorem zp168_73 {h : zH} {s : zS} (hM : zMd h s) (hA : zWa s) (hK : zWk s) {k44 : zq → Int32 → Int32 → Int32 → Int32 → Int32 → Int32 → Int32 → Int32 → Int32 → Int32 → zH → zRs Int32} {v g q i sh o b : Int} {x6 x7 x8 x9 x10 x11 : Int32} (v0 : 0 ≤ v) (v1 : v < 4) (g0 : 0 ≤ g) (g1 : g < 3) (i0 : 0 ≤ i) (i1 : i < 3) (hq : (q = 0 ∧ sh = 0) ∨ (q = 1 ∧ 1 ≤ sh ∧ sh ≤ 100)) (hb : zbo b (s 13 (3 * v + i) = -1 ∨ (o = 1 ∧ s 13 (3 * v + i) = s 13 (3 * v + g)) ∨ i = g)) :
    zm168_73 k44 (some (13, 0)) (zE g) (zE q) (zE sh) x6 x7 x8 x9 x10 x11 (zE i) (zE (3 * v + i)) (zE b) h = zm168_91 k44 (some (13, 0)) (zE g) (zE q) (zE sh) x6 x7 x8 x9 x10 x11 (zE i) (zE (3 * v + i)) (zE (zrmf s v g sh o i)) h := by
  have z1 : ¬ zE 1 = zE 0 := by decide
  obtain ⟨q1, q2, q3, q4, q5, q6⟩ := hK (3 * v + i) (by omega) (by omega)
  unfold zrmf
  by_cases e1 : i = g
  · rw [if_pos e1]
    have hb1 : b = 1 := hb.u (zbo_1 (Or.inr (Or.inr e1)))
    subst hb1
    subst e1
    rcases hq with ⟨rfl, rfl⟩ | ⟨rfl, s1, s2⟩
    · show _ = zm168_91 k44 _ _ _ _ _ _ _ _ _ _ _ _ (zE 0) h
      simp (discharger := omega) only [zm168_73, zm168_82, if_true, zE_0, zE_1, zE_2, zE_3, zE_4, zE_5, zE_6, zE_7, zE_8, zE_9, zE_10, zE_11, zE_12, zE_13, zE_14, zE_neg, z1, if_false]
    · simp (discharger := omega) only [zm168_73, if_true, zE_0, zE_1, zE_2, zE_3, zE_4, zE_5, zE_6, zE_7, zE_8, zE_9, zE_10, zE_11, zE_12, zE_13, zE_14, zE_neg, z1, if_false, zp166z, ↓zb_s]
  · rw [if_neg e1]
    rcases hb with ⟨rfl, hb⟩ | ⟨rfl, hb⟩
    · have hz : (if o = 1 ∧ s 13 (3 * v + i) = s 13 (3 * v + g) then 0 else zpf (s 14 (3 * v + i))) = 0 := by
        rcases hb with hb | hb | hb
        · by_cases c : o = 1 ∧ s 13 (3 * v + i) = s 13 (3 * v + g)
          · exact if_pos c
          · rw [if_neg c, q4.mp hb]
            rfl
        · exact if_pos hb
        · exact absurd hb e1
      rw [hz]
      simp (discharger := omega) only [zm168_73, zm168_82, zE_inj, e1, if_false, zE_0, zE_1, zE_2, zE_3, zE_4, zE_5, zE_6, zE_7, zE_8, zE_9, zE_10, zE_11, zE_12, zE_13, zE_14, zE_neg, z1]
    · have h13 : s 13 (3 * v + i) ≠ -1 := fun z => hb (Or.inl z)
      have h14 : s 14 (3 * v + i) ≠ 0 := fun z => h13 (q4.mpr z)
      rw [if_neg (fun z => hb (Or.inr (Or.inl z)))]
      simp (discharger := omega) only [zm168_73, zm168_82, zE_inj, e1, if_false, zE_0, zE_1, zE_2, zE_3, zE_4, zE_5, zE_6, zE_7, zE_8, zE_9, zE_10, zE_11, zE_12, zE_13, zE_14, zE_neg, if_true, ↓zM_ob, ↓zMi14 hM, zp166z, ↓zb_s]
theorem zp168_44 {h : zH} {s : zS} (hM : zMd h s) (hA : zWa s) (hK : zWk s) {k131 : zq → Int32 → Int32 → Int32 → Int32 → Int32 → zH → zRs Int32} {v g q sh o ah : Int} (v0 : 0 ≤ v) (v1 : v < 4) (g0 : 0 ≤ g) (g1 : g < 3) (hq : (q = 0 ∧ sh = 0) ∨ (q = 1 ∧ 1 ≤ sh ∧ sh ≤ 100)) (ho : o = 0 ∨ o = 1) :
    zm168_44 k131 zN0 (some (13, 0)) (zE g) (zE q) (zE sh) (zE v) (zE (s 13 (3 * v + g))) (zE o) (zE ah) (zE ah) (zE 0) (zE 0) h = k131 (some (13, 0)) (zE g) (zE q) (zE ah) (zE (ah + zrmD s v g sh)) (zE (zsum (zrmf s v g sh o) 3)) h := by
  have hn := hA.1
  have z1 : ¬ zE 1 = zE 0 := by decide
  have hq01 : q = 0 ∨ q = 1 := hq.imp (fun z => z.1) (fun z => z.1)
  refine zloop0 (W := fun n i (x : Int × Int) => zm168_44 k131 n (some (13, 0)) (zE g) (zE q) (zE sh) (zE v) (zE (s 13 (3 * v + g))) (zE o) (zE ah) (zE x.1) (zE x.2) (zE i) h) (N := 3) (fun i x => x.1 = (if g < i then ah + zrmD s v g sh else ah) ∧ x.2 = zsum (zrmf s v g sh o) i.toNat) (fun r => r = k131 (some (13, 0)) (zE g) (zE q) (zE ah) (zE (ah + zrmD s v g sh)) (zE (zsum (zrmf s v g sh o) 3)) h) (ah, 0) ⟨by rw [if_neg (by omega)], rfl⟩ (by omega) (by omega) ?_ ?_
  · rintro n ⟨B, A⟩ ⟨h1, h2⟩
    dsimp only at h1 h2
    rw [if_pos (by omega)] at h1
    subst h1
    subst h2
    simp (discharger := omega) only [zm168_44, zE_3, Int32.le_refl, if_true]
    rfl
  · rintro n i ⟨B, A⟩ i0 i1 ⟨h1, h2⟩
    dsimp only at h1 h2
    have h3 : ¬ (3 : Int) ≤ i := by omega
    obtain ⟨q1, q2, q3, q4, q5, q6⟩ := hK (3 * v + i) (by omega) (by omega)
    obtain ⟨p1, p2, p3, p4, p5, p6⟩ := hK (3 * v + g) (by omega) (by omega)
    have stp : ∀ b : Int, zbo b (s 13 (3 * v + i) = -1 ∨ (o = 1 ∧ s 13 (3 * v + i) = s 13 (3 * v + g)) ∨ i = g) → zm168_73 (zm168_44 k131 n) (some (13, 0)) (zE g) (zE q) (zE sh) (zE v) (zE (s 13 (3 * v + g))) (zE o) (zE ah) (zE B) (zE A) (zE i) (zE (3 * v + i)) (zE b) h = zm168_44 k131 n (some (13, 0)) (zE g) (zE q) (zE sh) (zE v) (zE (s 13 (3 * v + g))) (zE o) (zE ah) (zE (if i = g then B + ((zrmf s v g sh o i - zpf (s 14 (3 * v + i))) + (if q = 0 ∧ s 12 (3 * v + i) = -1 then 2 else 0)) else B)) (zE (A + zrmf s v g sh o i)) (zE (i + 1)) h := fun b hb => by
      rw [zp168_73 hM hA hK v0 v1 g0 g1 i0 i1 hq hb, zp168_91 hM hA hK v0 v1 g0 g1 i0 i1 hq01]
    refine Or.inr ⟨(if i = g then B + ((zrmf s v g sh o i - zpf (s 14 (3 * v + i))) + (if q = 0 ∧ s 12 (3 * v + i) = -1 then 2 else 0)) else B, A + zrmf s v g sh o i), ⟨?_, ?_⟩, ?_⟩
    · dsimp only
      by_cases e : i = g
      · subst e
        rw [if_neg (by omega)] at h1
        rw [if_pos rfl, if_pos (show i < i + 1 by omega), h1, show zrmf s v i sh o i = zpf sh from if_pos rfl]
        unfold zrmD
        rcases hq with ⟨rfl, rfl⟩ | ⟨rfl, s1, s2⟩
        · rfl
        · rw [if_neg (show ¬ ((1 : Int) = 0 ∧ s 12 (3 * v + i) = -1) from fun z => absurd z.1 (by decide)), if_neg (show ¬ (sh = 0 ∧ s 12 (3 * v + i) = -1) from fun z => by have := z.1; omega)]
      · rw [if_neg e, h1]
        by_cases c : g < i
        · rw [if_pos c, if_pos (by omega)]
        · rw [if_neg c, if_neg (by omega)]
    · dsimp only
      rw [zsum_s i0, h2]
    · dsimp only
      by_cases e1 : s 13 (3 * v + i) = -1
      · rw [← stp 1 (zbo_1 (Or.inl e1))]
        simp (discharger := omega) only [zm168_44, zE_3, zE_le, h3, if_false, zE_mul, zE_add, ↓zlet_s, ↓zM_ob, ↓zMi13 hM, e1, zE_0, zE_1, zE_2, zE_3, zE_4, zE_5, zE_6, zE_7, zE_8, zE_9, zE_10, zE_11, zE_12, zE_13, zE_14, zE_neg, if_true]
      · have f67 : ¬ (o = 1 ∧ s 13 (3 * v + i) = s 13 (3 * v + g)) → zm168_67 (zm168_44 k131 n) (some (13, 0)) (zE g) (zE q) (zE sh) (zE v) (zE (s 13 (3 * v + g))) (zE o) (zE ah) (zE B) (zE A) (zE i) (zE (3 * v + i)) h = zm168_44 k131 n (some (13, 0)) (zE g) (zE q) (zE sh) (zE v) (zE (s 13 (3 * v + g))) (zE o) (zE ah) (zE (if i = g then B + ((zrmf s v g sh o i - zpf (s 14 (3 * v + i))) + (if q = 0 ∧ s 12 (3 * v + i) = -1 then 2 else 0)) else B)) (zE (A + zrmf s v g sh o i)) (zE (i + 1)) h := fun hno => by
          by_cases e : i = g
          · rw [← stp 1 (zbo_1 (Or.inr (Or.inr e))), zm168_67, if_pos (congrArg zE e), zE_1]
          · rw [← stp 0 (zbo_0 fun z => z.elim e1 fun z => z.elim hno e), zm168_67, if_neg (by rw [zE_inj (by omega) (by omega) (by omega) (by omega)]; exact e), zE_0]
        rcases ho with rfl | rfl
        · rw [← f67 (fun z => absurd z.1 (by decide))]
          simp (discharger := omega) only [zm168_44, zE_3, zE_le, h3, if_false, zE_mul, zE_add, ↓zlet_s, ↓zM_ob, ↓zMi13 hM, zE_inj, e1, zE_0, zE_1, zE_2, zE_3, zE_4, zE_5, zE_6, zE_7, zE_8, zE_9, zE_10, zE_11, zE_12, zE_13, zE_14, zE_neg, if_true]
        · by_cases e2 : s 13 (3 * v + i) = s 13 (3 * v + g)
          · rw [← stp 1 (zbo_1 (Or.inr (Or.inl ⟨rfl, e2⟩)))]
            have e3 : ¬ s 13 (3 * v + g) = -1 := by rw [← e2]; exact e1
            simp (discharger := omega) only [zm168_44, zE_3, zE_le, h3, if_false, zE_mul, zE_add, ↓zlet_s, ↓zM_ob, ↓zMi13 hM, e2, zE_inj, e3, zE_0, zE_1, zE_2, zE_3, zE_4, zE_5, zE_6, zE_7, zE_8, zE_9, zE_10, zE_11, zE_12, zE_13, zE_14, zE_neg, z1, if_true]
          · rw [← f67 (fun z => e2 z.2)]
            simp (discharger := omega) only [zm168_44, zE_3, zE_le, h3, if_false, zE_mul, zE_add, ↓zlet_s, ↓zM_ob, ↓zMi13 hM, zE_inj, e1, e2, zE_0, zE_1, zE_2, zE_3, zE_4, zE_5, zE_6, zE_7, zE_8, zE_9, zE_10, zE_11, zE_12, zE_13, zE_14, zE_neg, z1]
theorem zp168 {h : zH} {s : zS} (hM : zMd h s) (hA : zWa s) (hK : zWk s) (hW : zWr s) (hZ : zWz s) {r a v g q sh o : Int} (r0 : 0 ≤ r) (r1 : r < s 30 0) (ha : s 31 r = a) (hv : s 3 a = v) (g0 : 0 ≤ g) (g1 : g < 3) (hq : (q = 0 ∧ sh = 0) ∨ (q = 1 ∧ 1 ≤ sh ∧ sh ≤ 100)) (ho : zbo o (zov s a (3 * v + g))) :
    ∃ b, zbo b (zroom s v g sh o) ∧ zm168 (some (13, 0)) (zE r) (zE g) (zE q) (zE sh) h = some (.inl (zE b), h) := by
  have hn := hA.1
  have hnr := hW.1
  have hw := (hW.2.2 r r0 r1).1
  rw [ha] at hw
  have hv2 := (hA.2 a hw.1 hw.2).1
  rw [hv] at hv2
  have z1 : ¬ zE 1 = zE 0 := by decide
  obtain ⟨q1, q2, q3, q4, q5, q6⟩ := hK (3 * v + g) (by omega) (by omega)
  have r1' := ztkn_r s g
  have r2 := zpls_r hZ g0 g1
  have r3 := zrmD_r s v g sh
  have r6 := zsum_r (f := zrmf s v g sh o) (b := 2) (fun i => zrmf_r s v g sh o i) (by omega) 3
  have f139 : ∃ b, zbo b (sh = 0 ∨ zsum (zrmf s v g sh o) 3 ≤ 4) ∧ zm168_139 (zE q) (zE (zsum (zrmf s v g sh o) 3)) h = some (.inl (zE b), h) := by
    rcases hq with ⟨rfl, e⟩ | ⟨rfl, s1, s2⟩
    · refine ⟨1, zbo_1 (Or.inl e), ?_⟩
      simp (discharger := omega) only [zm168_139, zE_0, zE_1, zE_2, zE_3, zE_4, zE_5, zE_6, zE_7, zE_8, zE_9, zE_10, zE_11, zE_12, zE_13, zE_14, zE_neg, if_true]
    · by_cases c : zsum (zrmf s v g sh o) 3 ≤ 4
      · have c' : ¬ 4 < zsum (zrmf s v g sh o) 3 := by omega
        refine ⟨1, zbo_1 (Or.inr c), ?_⟩
        simp (discharger := omega) only [zm168_139, zE_0, zE_1, zE_2, zE_3, zE_4, zE_5, zE_6, zE_7, zE_8, zE_9, zE_10, zE_11, zE_12, zE_13, zE_14, zE_neg, z1, if_false, zE_lt, c']
      · have c' : 4 < zsum (zrmf s v g sh o) 3 := by omega
        refine ⟨0, zbo_0 fun z => z.elim (fun z => by omega) c, ?_⟩
        simp (discharger := omega) only [zm168_139, zE_0, zE_1, zE_2, zE_3, zE_4, zE_5, zE_6, zE_7, zE_8, zE_9, zE_10, zE_11, zE_12, zE_13, zE_14, zE_neg, z1, if_false, zE_lt, c', if_true]
  have f131 : ∃ b, zbo b (zroom s v g sh o) ∧ zm168_131 (some (13, 0)) (zE g) (zE q) (zE (ztkn s g)) (zE (ztkn s g + zrmD s v g sh)) (zE (zsum (zrmf s v g sh o) 3)) h = some (.inl (zE b), h) := by
    obtain ⟨b, b1, b2⟩ := f139
    by_cases c1 : ztkn s g + zrmD s v g sh ≤ zpls s g
    · refine ⟨b, b1.cg ⟨fun z => ⟨Or.inl c1, z⟩, fun z => z.2⟩, ?_⟩
      simp (discharger := omega) only [zm168_131, ↓zM_ob, zp165 hM hZ, ↓zb_s, zE_le, c1, if_true, b2]
    · by_cases c2 : ztkn s g < ztkn s g + zrmD s v g sh
      · refine ⟨0, zbo_0 fun z => z.1.elim c1 (by omega), ?_⟩
        simp (discharger := omega) only [zm168_131, ↓zM_ob, zp165 hM hZ, ↓zb_s, zE_le, c1, if_false, zE_lt, c2, if_true, zE_0, zE_1, zE_2, zE_3, zE_4, zE_5, zE_6, zE_7, zE_8, zE_9, zE_10, zE_11, zE_12, zE_13, zE_14, zE_neg]
      · refine ⟨b, b1.cg ⟨fun z => ⟨Or.inr (by omega), z⟩, fun z => z.2⟩, ?_⟩
        simp (discharger := omega) only [zm168_131, ↓zM_ob, zp165 hM hZ, ↓zb_s, zE_le, c1, if_false, zE_lt, c2, b2]
  obtain ⟨b, b1, b2⟩ := f131
  refine ⟨b, b1, ?_⟩
  have f33 : zm168_33 (some (13, 0)) (zE g) (zE q) (zE sh) (zE v) (zE (s 13 (3 * v + g))) (zE o) h = some (.inl (zE b), h) := by
    rw [zm168_33, zM_ob, zp167 hM hA hK g0 g1, zb_s, zE_0, zp168_44 hM hA hK hv2.1 hv2.2 g0 g1 hq (by have := ho.r; omega), b2]
  have hz : zm168 (some (13, 0)) (zE r) (zE g) (zE q) (zE sh) h = zm168_33 (some (13, 0)) (zE g) (zE q) (zE sh) (zE v) (zE (s 13 (3 * v + g))) (zE o) h := by
    rw [zm168, zM_ob, zMi31 hM r0 (by omega), ha, zMi3 hM hw.1 (by omega), hv, zE_3, zE_mul, zE_add, zMi13 hM (by omega) (by omega)]
    by_cases e1 : s 13 (3 * v + g) = -1
    · have : o = 0 := ho.u (zbo_0 fun z => z.1 e1)
      subst this
      rw [e1, if_pos zE_m1.symm, zE_0]
    · rw [if_neg (by rw [zE_m1, zE_inj (by omega) (by omega) (by omega) (by omega)]; exact e1)]
      by_cases e2 : s 13 (3 * v + g) = a
      · have : o = 0 := ho.u (zbo_0 fun z => z.2.1 e2)
        subst this
        rw [e2, if_pos rfl, zE_0]
      · rw [if_neg (by rw [zE_inj (by omega) (by omega) (by omega) (by omega)]; exact e2)]
        obtain ⟨w, w1, w2⟩ := zp157i hM hA hW (a := s 13 (3 * v + g)) (by omega) q2.2
        rw [w2, zb_s]
        rcases w1 with ⟨rfl, w1⟩ | ⟨w0, w1⟩
        · have : o = 0 := ho.u (zbo_0 fun z => w1 z.2.2)
          subst this
          rw [if_pos zE_m1.symm, zE_0]
        · have : o = 1 := ho.u (zbo_1 ⟨e1, e2, w, w0.1, w0.2, w1⟩)
          subst this
          rw [if_neg (by rw [zE_m1, zE_inj (by omega) (by omega) (by omega) (by omega)]; omega), zE_1]
  rw [hz, f33]
