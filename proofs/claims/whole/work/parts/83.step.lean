set_option maxRecDepth 16384
/-! step: both sides. -/
def zstO (k o w : Int) : Prop := (0 ≤ k ∧ k ≤ 6) ∧ (k = 1 → 0 ≤ o ∧ o ≤ 1000) ∧ (k = 3 → 0 ≤ o ∧ o ≤ 5) ∧ (k ≠ 1 → k ≠ 3 → k ≠ 5 → 0 ≤ o ∧ o ≤ 2) ∧ (k = 0 → 1 ≤ w ∧ w ≤ 100)
theorem zc51 {h : zH} {k o w : Int} (k1 : -2147483648 ≤ k) (k2 : k < 2147483648) (o1 : -2147483648 ≤ o) (o2 : o < 2147483648) (w1 : -2147483648 ≤ w) (w2 : w < 2147483648) : (zstO k o w → zm51 (zE k) (zE o) (zE w) h = some (.inl (), h)) ∧ (¬ zstO k o w → zm51 (zE k) (zE o) (zE w) h = some (.inr 0, zro h 1 6)) := by
  have d : ∀ a b : Int, a = b → -2147483648 ≤ a → a < 2147483648 → (zE a = zE b) = True := fun a b e _ _ => eq_true (congrArg zE e)
  by_cases e : k < 0 ∨ 6 < k
  · refine ⟨fun z => by have := z.1; omega, fun _ => ?_⟩
    rw [zm51, zE_to k1 k2, if_pos e]
  · have hk : k = 0 ∨ k = 1 ∨ k = 2 ∨ k = 3 ∨ k = 4 ∨ k = 5 ∨ k = 6 := by omega
    have c3 : ∀ k', (k' = k) → k' ≠ 0 → k' ≠ 1 → k' ≠ 3 → k' ≠ 5 → (zstO k o w ↔ 0 ≤ o ∧ o ≤ 2) := fun k' e0 e1 e2 e3 e4 => ⟨fun z => z.2.2.2.1 (by omega) (by omega) (by omega), fun z => ⟨by omega, fun _ => by omega, fun _ => by omega, fun _ _ _ => z, fun _ => by omega⟩⟩
    rcases hk with rfl | rfl | rfl | rfl | rfl | rfl | rfl
    · by_cases q1 : 0 ≤ o ∧ o ≤ 2
      · by_cases q2 : 1 ≤ w ∧ w ≤ 100
        · refine ⟨fun _ => ?_, fun z => absurd ⟨by omega, fun _ => by omega, fun _ => by omega, fun _ _ _ => q1, fun _ => q2⟩ z⟩
          simp (discharger := omega) only [zm51, zE_to, e, if_false, zE_0, zE_1, zE_2, zE_3, zE_4, zE_5, zE_6, zE_7, zE_8, zE_9, zE_10, zE_11, zE_12, zE_13, zE_14, zE_neg, zE_100, if_true, zc131, if_pos q1, if_pos q2, ↓zb_s]
        · refine ⟨fun z => absurd (z.2.2.2.2 rfl) q2, fun _ => ?_⟩
          simp (discharger := omega) only [zm51, zE_to, e, if_false, zE_0, zE_1, zE_2, zE_3, zE_4, zE_5, zE_6, zE_7, zE_8, zE_9, zE_10, zE_11, zE_12, zE_13, zE_14, zE_neg, zE_100, if_true, zc131, if_pos q1, if_neg q2, ↓zb_s, ↓zb_x]
      · refine ⟨fun z => absurd (z.2.2.2.1 (by omega) (by omega) (by omega)) q1, fun _ => ?_⟩
        simp (discharger := omega) only [zm51, zE_to, e, if_false, zE_0, zE_1, zE_2, zE_3, zE_4, zE_5, zE_6, zE_7, zE_8, zE_9, zE_10, zE_11, zE_12, zE_13, zE_14, zE_neg, zE_100, if_true, zc131, if_neg q1, ↓zb_x]
    · by_cases q1 : 0 ≤ o ∧ o ≤ 1000
      · refine ⟨fun _ => ?_, fun z => absurd ⟨by omega, fun _ => q1, fun _ => by omega, fun _ _ _ => by omega, fun _ => by omega⟩ z⟩
        simp (discharger := omega) only [zm51, zE_to, zE_inj, e, if_false, zE_0, zE_1, zE_2, zE_3, zE_4, zE_5, zE_6, zE_7, zE_8, zE_9, zE_10, zE_11, zE_12, zE_13, zE_14, zE_neg, zE_1000, if_true, zc131, if_pos q1, ↓zb_s]
        rfl
      · refine ⟨fun z => absurd (z.2.1 rfl) q1, fun _ => ?_⟩
        simp (discharger := omega) only [zm51, zE_to, zE_inj, e, if_false, zE_0, zE_1, zE_2, zE_3, zE_4, zE_5, zE_6, zE_7, zE_8, zE_9, zE_10, zE_11, zE_12, zE_13, zE_14, zE_neg, zE_1000, if_true, zc131, if_neg q1, ↓zb_x]
        rfl
    · by_cases q1 : 0 ≤ o ∧ o ≤ 2
      · refine ⟨fun _ => ?_, fun z => absurd ((c3 _ rfl (by decide) (by decide) (by decide) (by decide)).mpr q1) z⟩
        simp (discharger := omega) only [zm51, zE_to, zE_inj, e, if_false, zE_0, zE_1, zE_2, zE_3, zE_4, zE_5, zE_6, zE_7, zE_8, zE_9, zE_10, zE_11, zE_12, zE_13, zE_14, zE_neg, if_true, zc131, if_pos q1, ↓zb_s]
        rfl
      · refine ⟨fun z => absurd ((c3 _ rfl (by decide) (by decide) (by decide) (by decide)).mp z) q1, fun _ => ?_⟩
        simp (discharger := omega) only [zm51, zE_to, zE_inj, e, if_false, zE_0, zE_1, zE_2, zE_3, zE_4, zE_5, zE_6, zE_7, zE_8, zE_9, zE_10, zE_11, zE_12, zE_13, zE_14, zE_neg, if_true, zc131, if_neg q1, ↓zb_x]
        rfl
    · by_cases q1 : 0 ≤ o ∧ o ≤ 5
      · refine ⟨fun _ => ?_, fun z => absurd ⟨by omega, fun _ => by omega, fun _ => q1, fun _ _ _ => by omega, fun _ => by omega⟩ z⟩
        simp (discharger := omega) only [zm51, zE_to, zE_inj, e, if_false, zE_0, zE_1, zE_2, zE_3, zE_4, zE_5, zE_6, zE_7, zE_8, zE_9, zE_10, zE_11, zE_12, zE_13, zE_14, zE_neg, if_true, zc131, if_pos q1, ↓zb_s]
        rfl
      · refine ⟨fun z => absurd (z.2.2.1 rfl) q1, fun _ => ?_⟩
        simp (discharger := omega) only [zm51, zE_to, zE_inj, e, if_false, zE_0, zE_1, zE_2, zE_3, zE_4, zE_5, zE_6, zE_7, zE_8, zE_9, zE_10, zE_11, zE_12, zE_13, zE_14, zE_neg, if_true, zc131, if_neg q1, ↓zb_x]
        rfl
    · by_cases q1 : 0 ≤ o ∧ o ≤ 2
      · refine ⟨fun _ => ?_, fun z => absurd ((c3 _ rfl (by decide) (by decide) (by decide) (by decide)).mpr q1) z⟩
        simp (discharger := omega) only [zm51, zE_to, zE_inj, e, if_false, zE_0, zE_1, zE_2, zE_3, zE_4, zE_5, zE_6, zE_7, zE_8, zE_9, zE_10, zE_11, zE_12, zE_13, zE_14, zE_neg, if_true, zc131, if_pos q1, ↓zb_s]
        rfl
      · refine ⟨fun z => absurd ((c3 _ rfl (by decide) (by decide) (by decide) (by decide)).mp z) q1, fun _ => ?_⟩
        simp (discharger := omega) only [zm51, zE_to, zE_inj, e, if_false, zE_0, zE_1, zE_2, zE_3, zE_4, zE_5, zE_6, zE_7, zE_8, zE_9, zE_10, zE_11, zE_12, zE_13, zE_14, zE_neg, if_true, zc131, if_neg q1, ↓zb_x]
        rfl
    · refine ⟨fun _ => ?_, fun z => absurd ⟨by omega, fun _ => by omega, fun _ => by omega, fun _ _ q => absurd rfl q, fun _ => by omega⟩ z⟩
      simp (discharger := omega) only [zm51, zE_to, zE_inj, e, if_false, zE_0, zE_1, zE_2, zE_3, zE_4, zE_5, zE_6, zE_7, zE_8, zE_9, zE_10, zE_11, zE_12, zE_13, zE_14, zE_neg, if_true]
      rfl
    · by_cases q1 : 0 ≤ o ∧ o ≤ 2
      · refine ⟨fun _ => ?_, fun z => absurd ((c3 _ rfl (by decide) (by decide) (by decide) (by decide)).mpr q1) z⟩
        simp (discharger := omega) only [zm51, zE_to, zE_inj, e, if_false, zE_0, zE_1, zE_2, zE_3, zE_4, zE_5, zE_6, zE_7, zE_8, zE_9, zE_10, zE_11, zE_12, zE_13, zE_14, zE_neg, if_true, zc131, if_pos q1, ↓zb_s]
        rfl
      · refine ⟨fun z => absurd ((c3 _ rfl (by decide) (by decide) (by decide) (by decide)).mp z) q1, fun _ => ?_⟩
        simp (discharger := omega) only [zm51, zE_to, zE_inj, e, if_false, zE_0, zE_1, zE_2, zE_3, zE_4, zE_5, zE_6, zE_7, zE_8, zE_9, zE_10, zE_11, zE_12, zE_13, zE_14, zE_neg, if_true, zc131, if_neg q1, ↓zb_x]
        rfl
/-- whether a release is by the program -/
def zstU (s : zS) (p r : Int) : Prop := s 32 r = p
theorem zp155_56 {h : zH} {s : zS} (hM : zMd h s) (hW : zWr s) {p : Int} {x2 x3 x4 x5 : Int32} {k : zq → Int32 → Int32 → Int32 → Int32 → Int32 → Int32 → zH → zRs Int32} (p1 : -2147483648 ≤ p) (p2 : p < 2147483648) (hs : s 25 0 ≤ 6) : ∃ t, zbo t (zxs 0 (s 30 0) (zstU s p)) ∧ zm155_56 k zN0 (some (13, 0)) (zE p) x2 x3 x4 x5 (zE 0) (zE 0) h = k (some (13, 0)) (zE p) x2 x3 x4 x5 (zE t) h := by
  have hn := hW.1
  have z1 : ¬ zE 1 = zE 0 := by decide
  refine zloop0 (W := fun n i t => zm155_56 k n (some (13, 0)) (zE p) x2 x3 x4 x5 (zE t) (zE i) h) (N := s 30 0) (fun i t => zbo t (zxs 0 i (zstU s p))) (fun r => ∃ t, zbo t (zxs 0 (s 30 0) (zstU s p)) ∧ r = k (some (13, 0)) (zE p) x2 x3 x4 x5 (zE t) h) 0 (zbo_0 zxs_n) hn.1 (by omega) ?_ ?_
  · intro n t hb
    refine ⟨t, hb, ?_⟩
    simp (discharger := omega) only [zm155_56, ↓zM_ob, zMs30 hM, Int32.le_refl, if_true]
  · intro n i t h1 h2 hb
    have h3 : ¬ s 30 0 ≤ i := by omega
    have hw := (hW.2.2 i h1 h2).2.1
    rcases hb with ⟨rfl, hb⟩ | ⟨rfl, hb⟩
    · refine Or.inr ⟨1, zbo_1 ((zxs_s h1).mpr (Or.inl hb)), ?_⟩
      simp (discharger := omega) only [zm155_56, zm155_71, ↓zM_ob, zMs30 hM, zE_le, h3, if_false, zE_0, zE_1, zE_2, zE_3, zE_4, zE_5, zE_6, zE_7, zE_8, zE_9, zE_10, zE_11, zE_12, zE_13, zE_14, zE_neg, z1, ↓zlet_s, zE_add]
    · by_cases e : s 32 i = p
      · refine Or.inr ⟨1, zbo_1 ((zxs_s h1).mpr (Or.inr e)), ?_⟩
        simp (discharger := omega) only [zm155_56, zm155_71, ↓zM_ob, zMs30 hM, zE_le, h3, if_false, zE_0, zE_1, zE_2, zE_3, zE_4, zE_5, zE_6, zE_7, zE_8, zE_9, zE_10, zE_11, zE_12, zE_13, zE_14, zE_neg, if_true, ↓zMi32 hM, e, ↓zlet_s, zE_add]
      · refine Or.inr ⟨0, zbo_0 fun z => ((zxs_s h1).mp z).elim hb e, ?_⟩
        simp (discharger := omega) only [zm155_56, zm155_71, ↓zM_ob, zMs30 hM, zE_le, h3, if_false, zE_0, zE_1, zE_2, zE_3, zE_4, zE_5, zE_6, zE_7, zE_8, zE_9, zE_10, zE_11, zE_12, zE_13, zE_14, zE_neg, if_true, ↓zMi32 hM, zE_inj, e, ↓zlet_s, zE_add]
theorem zp155_41 {h : zH} {x1 x3 : Int32} {k w : Int} (k1 : -2147483648 ≤ k) (k2 : k < 2147483648) (w1 : -2147483648 ≤ w) (w2 : w < 2147483648) : ∃ b, zbo b (k = 0 → 1 ≤ w ∧ w ≤ 100) ∧ zm155_41 (some (13, 0)) x1 (zE k) x3 (zE w) h = zm155_51 (some (13, 0)) x1 (zE k) x3 (zE w) (zE b) h := by
  have z1 : ¬ zE 1 = zE 0 := by decide
  by_cases e : k = 0
  · subst e
    obtain ⟨b, b1, b2⟩ := zp139i (h := h) w1 w2 (show -2147483648 ≤ (1 : Int) by omega) (by omega) (show -2147483648 ≤ (100 : Int) by omega) (by omega)
    refine ⟨b, b1.cg ⟨fun z _ => z, fun z => z rfl⟩, ?_⟩
    rcases b1 with ⟨rfl, -⟩ | ⟨rfl, -⟩
    · simp (discharger := omega) only [zm155_41, zE_0, zE_1, zE_2, zE_3, zE_4, zE_5, zE_6, zE_7, zE_8, zE_9, zE_10, zE_11, zE_12, zE_13, zE_14, zE_neg, zE_100, if_true, b2, ↓zb_s, z1, if_false]
    · simp (discharger := omega) only [zm155_41, zE_0, zE_1, zE_2, zE_3, zE_4, zE_5, zE_6, zE_7, zE_8, zE_9, zE_10, zE_11, zE_12, zE_13, zE_14, zE_neg, zE_100, if_true, b2, ↓zb_s]
  · refine ⟨1, zbo_1 fun z => absurd z e, ?_⟩
    simp (discharger := omega) only [zm155_41, zE_0, zE_1, zE_2, zE_3, zE_4, zE_5, zE_6, zE_7, zE_8, zE_9, zE_10, zE_11, zE_12, zE_13, zE_14, zE_neg, zE_inj, e, if_false]
theorem zp155_0 {h : zH} {s : zS} (hM : zMd h s) (hP : zWp s) {p k o w : Int} (p1 : 0 ≤ p) (p2 : p < s 25 0) (k1 : -2147483648 ≤ k) (k2 : k < 2147483648) (o1 : -2147483648 ≤ o) (o2 : o < 2147483648) (w1 : -2147483648 ≤ w) (w2 : w < 2147483648) : ∃ b, zbo b (zstO k o w) ∧ zm155 (some (13, 0)) (zE p) (zE k) (zE o) (zE w) h = zm155_51 (some (13, 0)) (zE p) (zE k) (zE o) (zE w) (zE b) h := by
  have z1 : ¬ zE 1 = zE 0 := by decide
  have hn := hP.1
  obtain ⟨b, b1, b2⟩ := zp139i (h := h) (x := p) (lo := 0) (hi := s 25 0 - 1) (by omega) (by omega) (by omega) (by omega) (by omega) (by omega)
  have : b = 1 := b1.u (zbo_1 (by omega))
  subst this
  obtain ⟨c, c1, c2⟩ := zp139i (h := h) (x := k) (lo := 0) (hi := 6) k1 k2 (by omega) (by omega) (by omega) (by omega)
  obtain ⟨d, d1, d2⟩ := zp155_41 (h := h) (x1 := zE p) (x3 := zE o) k1 k2 w1 w2
  rcases c1 with ⟨rfl, c1⟩ | ⟨rfl, c1⟩
  · by_cases e1 : k = 1
    · subst e1
      obtain ⟨f, f1, f2⟩ := zp139i (h := h) (x := o) (lo := 0) (hi := 1000) o1 o2 (by omega) (by omega) (by omega) (by omega)
      rcases f1 with ⟨rfl, f1⟩ | ⟨rfl, f1⟩
      · refine ⟨d, d1.cg ⟨fun z => ⟨c1, fun _ => f1, fun z => by omega, fun z => absurd rfl z, z⟩, fun z => z.2.2.2.2⟩, ?_⟩
        simp (discharger := omega) only [zm155, ↓zM_ob, zMs25 hM, zE_0, zE_1, zE_2, zE_3, zE_4, zE_5, zE_6, zE_7, zE_8, zE_9, zE_10, zE_11, zE_12, zE_13, zE_14, zE_neg, zE_sub, b2, c2, ↓zb_s, z1, if_false, if_true, zE_1000, f2]
        exact d2
      · refine ⟨0, zbo_0 fun z => f1 (z.2.1 rfl), ?_⟩
        simp (discharger := omega) only [zm155, ↓zM_ob, zMs25 hM, zE_0, zE_1, zE_2, zE_3, zE_4, zE_5, zE_6, zE_7, zE_8, zE_9, zE_10, zE_11, zE_12, zE_13, zE_14, zE_neg, zE_sub, b2, c2, ↓zb_s, z1, if_false, if_true, zE_1000, f2]
    · by_cases e3 : k = 3
      · subst e3
        obtain ⟨f, f1, f2⟩ := zp139i (h := h) (x := o) (lo := 0) (hi := 5) o1 o2 (by omega) (by omega) (by omega) (by omega)
        have z31 : ¬ zE 3 = zE 1 := by decide
        rcases f1 with ⟨rfl, f1⟩ | ⟨rfl, f1⟩
        · refine ⟨d, d1.cg ⟨fun z => ⟨c1, fun z => by omega, fun _ => f1, fun _ z => absurd rfl z, z⟩, fun z => z.2.2.2.2⟩, ?_⟩
          simp (discharger := omega) only [zm155, ↓zM_ob, zMs25 hM, zE_0, zE_1, zE_2, zE_3, zE_4, zE_5, zE_6, zE_7, zE_8, zE_9, zE_10, zE_11, zE_12, zE_13, zE_14, zE_neg, zE_sub, b2, c2, ↓zb_s, z1, z31, if_false, if_true, f2]
          exact d2
        · refine ⟨0, zbo_0 fun z => f1 (z.2.2.1 rfl), ?_⟩
          simp (discharger := omega) only [zm155, ↓zM_ob, zMs25 hM, zE_0, zE_1, zE_2, zE_3, zE_4, zE_5, zE_6, zE_7, zE_8, zE_9, zE_10, zE_11, zE_12, zE_13, zE_14, zE_neg, zE_sub, b2, c2, ↓zb_s, z1, z31, if_false, if_true, f2]
      · by_cases e5 : k = 5
        · subst e5
          have z51 : ¬ zE 5 = zE 1 := by decide
          have z53 : ¬ zE 5 = zE 3 := by decide
          refine ⟨d, d1.cg ⟨fun z => ⟨c1, fun z => by omega, fun z => by omega, fun _ _ z => absurd rfl z, z⟩, fun z => z.2.2.2.2⟩, ?_⟩
          simp (discharger := omega) only [zm155, ↓zM_ob, zMs25 hM, zE_0, zE_1, zE_2, zE_3, zE_4, zE_5, zE_6, zE_7, zE_8, zE_9, zE_10, zE_11, zE_12, zE_13, zE_14, zE_neg, zE_sub, b2, c2, ↓zb_s, z1, z51, z53, if_false, if_true]
          exact d2
        · obtain ⟨f, f1, f2⟩ := zp141 (h := h) (x := o) o1 o2
          rcases f1 with ⟨rfl, f1⟩ | ⟨rfl, f1⟩
          · refine ⟨d, d1.cg ⟨fun z => ⟨c1, fun z => absurd z e1, fun z => absurd z e3, fun _ _ _ => f1, z⟩, fun z => z.2.2.2.2⟩, ?_⟩
            simp (discharger := omega) only [zm155, ↓zM_ob, zMs25 hM, zE_0, zE_1, zE_2, zE_3, zE_4, zE_5, zE_6, zE_7, zE_8, zE_9, zE_10, zE_11, zE_12, zE_13, zE_14, zE_neg, zE_sub, b2, c2, ↓zb_s, z1, zE_inj, e1, e3, e5, if_false, f2]
            exact d2
          · refine ⟨0, zbo_0 fun z => f1 (z.2.2.2.1 e1 e3 e5), ?_⟩
            simp (discharger := omega) only [zm155, ↓zM_ob, zMs25 hM, zE_0, zE_1, zE_2, zE_3, zE_4, zE_5, zE_6, zE_7, zE_8, zE_9, zE_10, zE_11, zE_12, zE_13, zE_14, zE_neg, zE_sub, b2, c2, ↓zb_s, z1, zE_inj, e1, e3, e5, if_false, f2, if_true]
  · refine ⟨0, zbo_0 fun z => c1 z.1, ?_⟩
    simp (discharger := omega) only [zm155, ↓zM_ob, zMs25 hM, zE_0, zE_1, zE_2, zE_3, zE_4, zE_5, zE_6, zE_7, zE_8, zE_9, zE_10, zE_11, zE_12, zE_13, zE_14, zE_neg, zE_sub, b2, c2, ↓zb_s, z1, if_false, if_true]
def zstS (s : zS) (p k o w : Int) : zS := zup (zup (zup (zup s 27 (10 * p + s 26 p) k) 28 (10 * p + s 26 p) o) 29 (10 * p + s 26 p) w) 26 p (s 26 p + 1)
theorem zif_u {s : zS} {j : Nat} {a v u : Int} : zup s j a v j u = if u = a then v else s j u := by
  by_cases e : u = a
  · rw [e, zup_s, if_pos rfl]
  · rw [zup_a e, if_neg e]
theorem zstS_26 {s : zS} {p k o w u : Int} : zstS s p k o w 26 u = if u = p then s 26 p + 1 else s 26 u := by
  show zup s 26 p (s 26 p + 1) 26 u = _
  exact zif_u
theorem zstS_27 {s : zS} {p k o w u : Int} : zstS s p k o w 27 u = if u = 10 * p + s 26 p then k else s 27 u := by
  show zup s 27 (10 * p + s 26 p) k 27 u = _
  exact zif_u
theorem zstS_28 {s : zS} {p k o w u : Int} : zstS s p k o w 28 u = if u = 10 * p + s 26 p then o else s 28 u := by
  show zup s 28 (10 * p + s 26 p) o 28 u = _
  exact zif_u
theorem zstS_29 {s : zS} {p k o w u : Int} : zstS s p k o w 29 u = if u = 10 * p + s 26 p then w else s 29 u := by
  show zup s 29 (10 * p + s 26 p) w 29 u = _
  exact zif_u
def zstH (h : zH) (p n k o w : Int) : zH := zsi (zsi (zsi (zsi h 22 p.toNat n.toNat (zE k)) 23 p.toNat n.toNat (zE o)) 24 p.toNat n.toNat (zE w)) 4 p.toNat 3 (zE (n + 1))
theorem zstH_k {h : zH} {p n k o w : Int} (P : Nat → Prop) (p1 : ¬ P 4) (p2 : ¬ P 22) (p3 : ¬ P 23) (p4 : ¬ P 24) : zKp P h (zstH h p n k o w) := (((zKp_i p2).tr (zKp_i p3)).tr (zKp_i p4)).tr (zKp_i p1)
theorem zstH_C {h : zH} {s : zS} {p k o w : Int} (hC : zCl h s) (hW : zWf s) (p1 : 0 ≤ p) (p2 : p < s 25 0) (h10 : s 26 p < 10) : zCl (zstH h p (s 26 p) k o w) (zstS s p k o w) := by
  obtain ⟨wA, wK, wC, wD, wP, wR, wZ, wT, wG, wE, wM, wX⟩ := hW
  have h26 := wP.2.1
  obtain ⟨c1, c2, c3, c4, c5, c6, c7, c8, c9, c10, c11, c12, c13, c14⟩ := hC
  refine ⟨c1, c2, c3, ⟨c4.1, fun u u0 u1 => ?_⟩, c5, c6, c7, c8, c9, c10, c11, c12, zCM_w c13 (zstH_k _ (by decide) (by decide) (by decide) (by decide)) rfl rfl rfl rfl, c14⟩
  obtain ⟨q0, q1, q2, q3, q4, q5, q6, q7, q8, q9, q10, q11⟩ := c4.2 u u0 u1
  have hu := h26 u u0 u1
  have hp := h26 p p1 p2
  refine ⟨q0, q1, q2, q3, q4, q5, q6, ?_, ?_, fun x x0 x1 => ?_, fun x x0 x1 => ?_, fun x x0 x1 => ?_⟩
  · rw [zstS_26]
    show zi (zstH h p (s 26 p) k o w) 4 u.toNat 3 = _
    by_cases e : u = p
    · subst e
      rw [if_pos rfl]
      exact zi_s
    · rw [if_neg e]
      exact (zi_i (by omega)).trans q7
  · show zi (zstH h p (s 26 p) k o w) 4 u.toNat 4 = _
    exact (zi_j (by decide)).trans q8
  · rw [zstS_26] at x1
    rw [zstS_27]
    show zi (zsi h 22 p.toNat (s 26 p).toNat (zE k)) 22 u.toNat x.toNat = _
    by_cases e : u = p
    · subst e
      rw [if_pos rfl] at x1
      by_cases e2 : x = s 26 u
      · subst e2
        rw [if_pos rfl]
        exact zi_s
      · rw [if_neg (by omega)]
        exact (zi_j (by omega)).trans (q9 x x0 (by omega))
    · rw [if_neg e] at x1
      rw [if_neg (by omega)]
      exact (zi_i (by omega)).trans (q9 x x0 x1)
  · rw [zstS_26] at x1
    rw [zstS_28]
    show zi (zsi (zsi h 22 p.toNat (s 26 p).toNat (zE k)) 23 p.toNat (s 26 p).toNat (zE o)) 23 u.toNat x.toNat = _
    by_cases e : u = p
    · subst e
      rw [if_pos rfl] at x1
      by_cases e2 : x = s 26 u
      · subst e2
        rw [if_pos rfl]
        exact zi_s
      · rw [if_neg (by omega)]
        exact (zi_j (by omega)).trans (q10 x x0 (by omega))
    · rw [if_neg e] at x1
      rw [if_neg (by omega)]
      exact (zi_i (by omega)).trans (q10 x x0 x1)
  · rw [zstS_26] at x1
    rw [zstS_29]
    show zi (zsi (zsi (zsi h 22 p.toNat (s 26 p).toNat (zE k)) 23 p.toNat (s 26 p).toNat (zE o)) 24 p.toNat (s 26 p).toNat (zE w)) 24 u.toNat x.toNat = _
    by_cases e : u = p
    · subst e
      rw [if_pos rfl] at x1
      by_cases e2 : x = s 26 u
      · subst e2
        rw [if_pos rfl]
        exact zi_s
      · rw [if_neg (by omega)]
        exact (zi_j (by omega)).trans (q11 x x0 (by omega))
    · rw [if_neg e] at x1
      rw [if_neg (by omega)]
      exact (zi_i (by omega)).trans (q11 x x0 x1)
theorem zstS_W {s : zS} {p k o w : Int} (hW : zWf s) (p1 : 0 ≤ p) (p2 : p < s 25 0) (ho : zstO k o w) (o1 : -2147483648 ≤ o) (o2 : o < 2147483648) (w1 : -2147483648 ≤ w) (w2 : w < 2147483648) (h10 : s 26 p < 10) (hx : ¬ zxs 0 (s 30 0) (zstU s p)) : zWf (zstS s p k o w) := by
  obtain ⟨wA, wK, wC, wD, wP, wR, wZ, wT, wG, wE, wM, wX⟩ := hW
  have hn := wP.1
  have h26 := wP.2.1
  have hp := h26 p p1 p2
  have hr : ∀ r, 0 ≤ r → r < s 30 0 → zstS s p k o w 26 (s 32 r) = s 26 (s 32 r) := fun r r0 r1 => by
    rw [zstS_26, if_neg (show ¬ s 32 r = p from fun z => hx ⟨r, r0, r1, z⟩)]
  refine ⟨wA, wK, wC, wD, ⟨wP.1, fun u u0 u1 => ?_, fun x => ?_, fun u x u0 u1 x0 x1 => ?_⟩, ⟨wR.1, wR.2.1, fun r r0 r1 => ?_⟩, wZ, wT, wG, wE, wM, wX.1, wX.2.1, wX.2.2.1, wX.2.2.2.1, fun u u0 u1 => ?_, wX.2.2.2.2.2⟩
  · rw [zstS_26]
    by_cases e : u = p
    · rw [if_pos e]; omega
    · rw [if_neg e]; exact h26 u u0 u1
  · rw [zstS_28, zstS_29]
    have := wP.2.2.1 x
    by_cases e : x = 10 * p + s 26 p
    · rw [if_pos e, if_pos e]; omega
    · rw [if_neg e, if_neg e]; exact this
  · rw [zstS_26] at x1
    rw [zstS_27, zstS_28, zstS_29]
    by_cases e : 10 * u + x = 10 * p + s 26 p
    · simp only [if_pos e]
      obtain ⟨a1, a2, a3, a4, a5⟩ := ho
      refine ⟨a1, fun z => ?_, fun z => (a3 z).2, fun z1 z2 z3 => (a4 z1 z2 z3).2, a5⟩
      by_cases e1 : k = 1
      · exact a2 e1
      · by_cases e3 : k = 3
        · have := a3 e3; omega
        · have := a4 e1 e3 z; omega
    · simp only [if_neg e]
      have hu := h26 u u0 u1
      refine wP.2.2.2 u x u0 u1 x0 ?_
      by_cases e2 : u = p
      · rw [if_pos e2] at x1
        subst e2
        omega
      · rwa [if_neg e2] at x1
  · have q := wR.2.2 r r0 r1
    show (0 ≤ s 31 r ∧ s 31 r < s 2 0) ∧ (0 ≤ s 32 r ∧ s 32 r < s 25 0) ∧ (0 ≤ s 33 r ∧ s 33 r ≤ 4) ∧ (0 ≤ s 34 r ∧ s 34 r ≤ zstS s p k o w 26 (s 32 r)) ∧ (s 33 r ≤ 1 → s 34 r < zstS s p k o w 26 (s 32 r)) ∧ _
    rw [hr r r0 r1]
    exact q
  · rw [zstS_26]
    have u0 : s 25 0 ≤ u := u0
    rw [if_neg (by omega)]
    exact wX.2.2.2.2.1 u u0 u1
theorem zc8 {h : zH} {s : zS} {p k o w : Int} (hP : zCP h s) (hW : zWp s) (p1 : 0 ≤ p) (p2 : p < s 25 0) (h10 : s 26 p < 10) : zm8 (some (4, p.toNat)) (zE k) (zE o) (zE w) h = some (.inl (), zstH h p (s 26 p) k o w) := by
  have h26 := hW.2.1 p p1 p2
  have f1 := zCp3 hP p1 p2
  rw [zm8, zo_4, f1, zar_s (zCp0 hP p1 p2) rfl (zCpL0 hP p1 p2) h26.1 (by omega) (by omega), zlet_s]
  rw [show zi (zsi h 22 p.toNat (s 26 p).toNat (zE k)) 4 p.toNat 3 = zE (s 26 p) from f1]
  rw [zar_s (show zr (zsi h 22 p.toNat (s 26 p).toNat (zE k)) 4 p.toNat 1 = _ from zCp1 hP p1 p2) rfl (show zln (zsi h 22 p.toNat (s 26 p).toNat (zE k)) 23 p.toNat = 10 from zCpL1 hP p1 p2) h26.1 (by omega) (by omega), zlet_s]
  rw [show zi (zsi (zsi h 22 p.toNat (s 26 p).toNat (zE k)) 23 p.toNat (s 26 p).toNat (zE o)) 4 p.toNat 3 = zE (s 26 p) from f1]
  rw [zar_s (show zr (zsi (zsi h 22 p.toNat (s 26 p).toNat (zE k)) 23 p.toNat (s 26 p).toNat (zE o)) 4 p.toNat 2 = _ from zCp2 hP p1 p2) rfl (show zln (zsi (zsi h 22 p.toNat (s 26 p).toNat (zE k)) 23 p.toNat (s 26 p).toNat (zE o)) 24 p.toNat = 10 from zCpL2 hP p1 p2) h26.1 (by omega) (by omega), zlet_s, zlet_s]
  rw [show zi (zsi (zsi (zsi h 22 p.toNat (s 26 p).toNat (zE k)) 23 p.toNat (s 26 p).toNat (zE o)) 24 p.toNat (s 26 p).toNat (zE w)) 4 p.toNat 3 = zE (s 26 p) from f1, zE_1, zE_add]
  rfl
theorem zp155_x {x1 x2 x3 x4 : Int32} {t : Int} {h : zH} (t1 : 1 ≤ t) (t2 : t ≤ 3) : zm155_90 (some (13, 0)) x1 x2 x3 x4 (some (13, 0)) (zE t) h = some (.inl (zE 0), zsi h 13 0 0 (zE t)) := by
  rw [zm155_90, zM_ob, zlet_s, zM_ob, if_neg, zE_0]
  rw [zi_s, zE_0, zE_le (by omega) (by omega) (by omega) (by omega)]
  omega
theorem zr_step (x y z w : Int32) : zPrI (fun h => zm50 (some (12, 0)) x y z w h) (fun h => zm155 (some (13, 0)) x y z w h) (fun t => if t = 1 then 2 else if t = 2 then 0 else 1) 3 := by
  intro h s hC hM hW
  obtain ⟨p, rfl, p1, p2⟩ := zE_ex x
  obtain ⟨k, rfl, k1, k2⟩ := zE_ex y
  obtain ⟨o, rfl, o1, o2⟩ := zE_ex z
  obtain ⟨w, rfl, w1, w2⟩ := zE_ex w
  have z1 : ¬ zE 1 = zE 0 := by decide
  have hC0 := hC
  have hW0 := hW
  obtain ⟨cr, cs, cA, cP, cR, -⟩ := hC
  obtain ⟨wA, wK, wC, wD, wP, wR, wZ, wT, wG, wE, wM, wX⟩ := hW
  have nP := wP.1
  by_cases q1 : 0 ≤ p ∧ p < s 25 0
  · have m1 : ∀ h', zMd h' s → ∃ b, zbo b (zstO k o w) ∧ zm155 (some (13, 0)) (zE p) (zE k) (zE o) (zE w) h' = zm155_51 (some (13, 0)) (zE p) (zE k) (zE o) (zE w) (zE b) h' := fun h' hM' => zp155_0 hM' wP q1.1 q1.2 k1 k2 o1 o2 w1 w2
    have lp : ∀ h', zMd h' s → ∀ x5, ∃ t, zbo t (zxs 0 (s 30 0) (zstU s p)) ∧ zm155_51 (some (13, 0)) (zE p) (zE k) (zE o) (zE w) x5 h' = zm155_74 (some (13, 0)) (zE p) (zE k) (zE o) (zE w) x5 (zE t) h' := fun h' hM' x5 => by
      rw [zm155_51, zE_0]
      exact zp155_56 hM' wR p1 p2 (by omega)
    have h26 := wP.2.1 p q1.1 q1.2
    obtain ⟨d1, d2⟩ := zc51 (h := h) k1 k2 o1 o2 w1 w2
    by_cases q2 : zstO k o w
    · have d1 := d1 q2
      have hx : (s 26 p = 10 ∨ zxs 0 (s 30 0) (zstU s p)) → ∀ h', zMd h' s → zm155 (some (13, 0)) (zE p) (zE k) (zE o) (zE w) h' = some (.inl (zE 0), zsi h' 13 0 0 (zE 3)) := fun hy h' hM' => by
        obtain ⟨b, b1, b2⟩ := m1 h' hM'
        have : b = 1 := b1.u (zbo_1 q2)
        subst this
        obtain ⟨t, t1, t2⟩ := lp h' hM' (zE 1)
        rw [b2, t2]
        by_cases c8 : s 26 p = 10
        · simp (discharger := omega) only [zm155_74, ↓zM_ob, ↓zMi26 hM', zE_0, zE_1, zE_2, zE_3, zE_4, zE_5, zE_6, zE_7, zE_8, zE_9, zE_10, zE_11, zE_12, zE_13, zE_14, zE_neg, c8, z1, if_false, if_true]
          exact zp155_x (t := 3) (by omega) (by omega)
        · rcases t1 with ⟨rfl, -⟩ | ⟨rfl, t1⟩
          · simp (discharger := omega) only [zm155_74, ↓zM_ob, ↓zMi26 hM', zE_0, zE_1, zE_2, zE_3, zE_4, zE_5, zE_6, zE_7, zE_8, zE_9, zE_10, zE_11, zE_12, zE_13, zE_14, zE_neg, zE_inj, c8, z1, if_false]
            exact zp155_x (t := 3) (by omega) (by omega)
          · exact absurd (hy.resolve_left c8) t1
      by_cases e3 : s 26 p = 10
      · refine zexI (t := 3) hC0 hW0 (by omega) (by omega) ?_ (hx (Or.inl e3))
        simp (discharger := omega) only [zm50, ↓zo_12, ↓zLPz cr cP, zc130, if_pos q1, ↓zb_s, d1, ↓zLPg cr cP, ↓zo_4, zCp3 cP, e3, zE_0, zE_1, zE_2, zE_3, zE_4, zE_5, zE_6, zE_7, zE_8, zE_9, zE_10, zE_11, zE_12, zE_13, zE_14, zE_neg, Int32.le_refl, if_true]
        rfl
      · have e3' : ¬ 10 ≤ s 26 p := by omega
        by_cases e4 : zxs 0 (s 30 0) (zstU s p)
        · refine zexI (t := 3) hC0 hW0 (by omega) (by omega) ?_ (hx (Or.inr e4))
          have e5 : zi h 4 p.toNat 4 = zE 1 := by rw [zCp4 cP q1.1 q1.2]; exact congrArg zE (zcn1_t e4)
          simp (discharger := omega) only [zm50, ↓zo_12, ↓zLPz cr cP, zc130, if_pos q1, ↓zb_s, d1, ↓zLPg cr cP, ↓zo_4, zCp3 cP, zE_0, zE_1, zE_2, zE_3, zE_4, zE_5, zE_6, zE_7, zE_8, zE_9, zE_10, zE_11, zE_12, zE_13, zE_14, zE_neg, zE_le, e3', if_false, e5, z1]
          rfl
        · have e5 : zi h 4 p.toNat 4 = zE 0 := by rw [zCp4 cP q1.1 q1.2]; exact congrArg zE (zcn1_f e4)
          refine zokI (v := s 26 p + 1) (by omega) (zstS_W hW0 q1.1 q1.2 q2 o1 o2 w1 w2 (by omega) e4) (h1 := zstH h p (s 26 p) k o w) ?_ (zstH_C hC0 hW0 q1.1 q1.2 (by omega)) (zstH_k _ (fun z => z (by unfold zpc1; decide)) (fun z => z (by unfold zpc1; decide)) (fun z => z (by unfold zpc1; decide)) (fun z => z (by unfold zpc1; decide))) (by show zce h ≤ _; omega) (by show zso h ≤ _; omega) (fun h' hM' => ?_)
          · have e6 : zi (zstH h p (s 26 p) k o w) 4 p.toNat 3 = zE (s 26 p + 1) := zi_s
            simp (discharger := omega) only [zm50, ↓zo_12, ↓zLPz cr cP, zc130, if_pos q1, ↓zb_s, d1, ↓zLPg cr cP, ↓zo_4, zCp3 cP, zE_0, zE_1, zE_2, zE_3, zE_4, zE_5, zE_6, zE_7, zE_8, zE_9, zE_10, zE_11, zE_12, zE_13, zE_14, zE_neg, zE_le, e3', if_false, e5, if_true, zc8 cP wP, e6]
          · have hM1 := hM'.ws 0 (by decide) 0
            have hM2 := hM1.wa (27, 127, 60) (by decide) (10 * p + s 26 p) k (by omega)
            have hM3 := hM2.wa (28, 128, 60) (by decide) (10 * p + s 26 p) o (by omega)
            have hM4 := hM3.wa (29, 129, 60) (by decide) (10 * p + s 26 p) w (by omega)
            have hM5 := hM4.wa (26, 126, 6) (by decide) p (s 26 p + 1) (by omega)
            refine ⟨_, zsc_c (zsc_c (zsc_c (zsc_c zsc_up))), ((zup_j (by decide)).trans ((zup_j (by decide)).trans ((zup_j (by decide)).trans ((zup_j (by decide)).trans zup_s)))), _, ?_, hM5, ((((zKp_i (fun z => z (Or.inl rfl))).tr (zKp_i (fun z => z (Or.inr (by decide))))).tr (zKp_i (fun z => z (Or.inr (by decide))))).tr (zKp_i (fun z => z (Or.inr (by decide))))).tr (zKp_i (fun z => z (Or.inr (by decide)))), rfl, rfl⟩
            show zm155 (some (13, 0)) (zE p) (zE k) (zE o) (zE w) h' = _
            obtain ⟨b, b1, b2⟩ := m1 h' hM'
            have : b = 1 := b1.u (zbo_1 q2)
            subst this
            obtain ⟨t, t1, t2⟩ := lp h' hM' (zE 1)
            have : t = 0 := t1.u (zbo_0 e4)
            subst this
            rw [b2, t2]
            have e7 : zup s 0 0 0 26 p = s 26 p := rfl
            have e8 : zup (zup (zup (zup s 0 0 0) 27 (10 * p + s 26 p) k) 28 (10 * p + s 26 p) o) 29 (10 * p + s 26 p) w 26 p = s 26 p := rfl
            simp (discharger := omega) only [zm155_74, zm155_90, ↓zM_ob, zE_0, zE_1, zE_2, zE_3, zE_4, zE_5, zE_6, zE_7, zE_8, zE_9, zE_10, zE_11, zE_12, zE_13, zE_14, zE_neg, z1, if_false, ↓zMi26 hM', zE_inj, e3, if_true, ↓zlet_s, zMs0 hM1, zup_s, Int32.le_refl, ↓zMi26 hM1, e7, zE_mul, zE_add, ↓zMa27 hM1, ↓zMa28 hM2, ↓zMa29 hM3, ↓zMi26 hM4, e8, ↓zMa26 hM4, ↓zMi26 hM5]
    · refine zexI (t := 2) hC0 hW0 (by omega) (by omega) ?_ (fun h' hM' => ?_)
      · simp (discharger := omega) only [zm50, ↓zo_12, ↓zLPz cr cP, zc130, if_pos q1, ↓zb_s, d2 q2, ↓zb_x]
        rfl
      · show zm155 (some (13, 0)) (zE p) (zE k) (zE o) (zE w) h' = _
        obtain ⟨b, b1, b2⟩ := m1 h' hM'
        have : b = 0 := b1.u (zbo_0 q2)
        subst this
        obtain ⟨t, t1, t2⟩ := lp h' hM' (zE 0)
        rw [b2, t2, zm155_74, if_pos zE_0.symm, zE_2]
        exact zp155_x (t := 2) (by omega) (by omega)
  · refine zexI (t := 1) hC0 hW0 (by omega) (by omega) ?_ (fun h' hM' => ?_)
    · simp (discharger := omega) only [zm50, ↓zo_12, ↓zLPz cr cP, zc130, if_neg q1, ↓zb_x]
      rfl
    · show zm155 (some (13, 0)) (zE p) (zE k) (zE o) (zE w) h' = _
      obtain ⟨b, b1, b2⟩ := zp139i (h := h') (x := p) (lo := 0) (hi := s 25 0 - 1) p1 p2 (by omega) (by omega) (by omega) (by omega)
      have : b = 0 := b1.u (zbo_0 (by omega))
      subst this
      simp (discharger := omega) only [zm155, ↓zM_ob, zMs25 hM', zE_0, zE_1, zE_2, zE_3, zE_4, zE_5, zE_6, zE_7, zE_8, zE_9, zE_10, zE_11, zE_12, zE_13, zE_14, zE_neg, zE_sub, b2, ↓zb_s, if_true, zm138, ↓zlet_s]
