set_option maxRecDepth 16384
/-! release: whether one of the artefact's is under way. -/
def zrlP (s : zS) (a r : Int) : Prop := s 31 r = a ∧ ¬ 1 < s 33 r
theorem zc53 {h : zH} {s : zS} (hR : zCr h) (hC : zCR h s) (hW : zWr s) {a : Int} (a0 : 0 ≤ a) : ∃ q, (q = none ↔ ¬ zxs 0 (s 30 0) (zrlP s a)) ∧ zm53 (some (12, 0)) (some (0, a.toNat)) h = some (.inl q, h) := by
  have hn := hW.1
  have z1 : ¬ zE 1 = zE 0 := by decide
  rw [zm53, zE_0]
  refine zloop0 (W := fun n i (_ : Unit) => zm53_2 n (some (12, 0)) (some (0, a.toNat)) (zE i) h) (N := s 30 0) (fun i _ => ¬ zxs 0 i (zrlP s a)) (fun r => ∃ q, (q = none ↔ ¬ zxs 0 (s 30 0) (zrlP s a)) ∧ r = some (.inl q, h)) () zxs_n hn.1 (by omega) ?_ ?_
  · intro n _ hb
    refine ⟨none, ⟨fun _ => hb, fun _ => rfl⟩, ?_⟩
    simp (discharger := omega) only [zm53_2, ↓zo_12, ↓zLRz hR hC, Int32.le_refl, if_true]
  · intro n i _ h1 h2 hb
    have h3 : ¬ s 30 0 ≤ i := by omega
    have hw := (hW.2.2 i h1 h2).1
    have he : ((some (0, (s 31 i).toNat) : zq) = some (0, a.toNat)) = (s 31 i = a) := by
      rw [← zrf_s (k := 0) hw.1, ← zrf_s (k := 0) a0, zrf_i (by omega) (by omega)]
    have go : ¬ zrlP s a i → ¬ zxs 0 (i + 1) (zrlP s a) := fun q => by
      rw [zxs_s h1]
      exact fun z => z.elim hb q
    by_cases e1 : s 31 i = a
    · have he2 : ((some (0, (s 31 i).toNat) : zq) = some (0, a.toNat)) = True := he.trans (eq_true e1)
      obtain ⟨b, b1, b2⟩ := zc10 hC hW h1 h2
      rcases b1 with ⟨rfl, b1⟩ | ⟨rfl, b1⟩
      · refine Or.inr ⟨(), go fun z => z.2 b1, ?_⟩
        simp (discharger := omega) only [zm53_2, zm53_22, ↓zo_12, ↓zLRz hR hC, zE_le, h3, if_false, ↓zLRg hR hC, ↓zo_5, zCrA hC, he2, if_true, b2, ↓zb_s, zE_0, zE_1, zE_2, zE_3, zE_4, zE_5, zE_6, zE_7, zE_8, zE_9, zE_10, zE_11, zE_12, zE_13, zE_14, zE_neg, z1, ↓zlet_s, zE_add]
      · refine Or.inl ⟨some (5, i.toNat), ⟨fun z => (by cases z), fun z => absurd ⟨i, h1, h2, e1, b1⟩ z⟩, ?_⟩
        simp (discharger := omega) only [zm53_2, ↓zo_12, ↓zLRz hR hC, zE_le, h3, if_false, ↓zLRg hR hC, ↓zo_5, zCrA hC, he2, if_true, b2, ↓zb_s, zE_0, zE_1, zE_2, zE_3, zE_4, zE_5, zE_6, zE_7, zE_8, zE_9, zE_10, zE_11, zE_12, zE_13, zE_14, zE_neg]
    · have he2 : ((some (0, (s 31 i).toNat) : zq) = some (0, a.toNat)) = False := he.trans (eq_false e1)
      refine Or.inr ⟨(), go fun z => e1 z.1, ?_⟩
      simp (discharger := omega) only [zm53_2, zm53_22, ↓zo_12, ↓zLRz hR hC, zE_le, h3, if_false, ↓zLRg hR hC, ↓zo_5, zCrA hC, he2, zE_0, zE_1, zE_2, zE_3, zE_4, zE_5, zE_6, zE_7, zE_8, zE_9, zE_10, zE_11, zE_12, zE_13, zE_14, zE_neg, ↓zlet_s, zE_add]
