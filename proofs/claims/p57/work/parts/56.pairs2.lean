set_option maxRecDepth 16384
/-! The calls that read one thing: both sides (printed by wip/whole/gen/pairs.py). -/
theorem zc132 {h : zH} {s : zS} (hR : zCr h) (hV : zCV h s) {a b : Int} (a1 : -2147483648 ≤ a) (a2 : a < 2147483648) (b1 : -2147483648 ≤ b) (b2 : b < 2147483648) : ((0 ≤ a ∧ a ≤ 3) ∧ 0 ≤ b ∧ b ≤ 2 → zm132 (some (12, 0)) (zE a) (zE b) h = some (.inl (some (10, (3 * a + b).toNat)), h)) ∧ (¬ ((0 ≤ a ∧ a ≤ 3) ∧ 0 ≤ b ∧ b ≤ 2) → zm132 (some (12, 0)) (zE a) (zE b) h = some (.inr 0, zro h 1 6)) := by
  constructor
  · rintro ⟨c, d⟩
    simp (discharger := omega) only [zm132, zE_0, zE_1, zE_2, zE_3, zE_4, zE_5, zE_6, zE_7, zE_8, zE_9, zE_10, zE_11, zE_12, zE_13, zE_14, zE_neg, zc131, if_pos c, if_pos d, ↓zb_s, ↓zo_12, ↓zo_9, ↓zLVa hR hV, ↓zLKa hV]
  · intro c
    by_cases c1 : 0 ≤ a ∧ a ≤ 3
    · have c2 : ¬ (0 ≤ b ∧ b ≤ 2) := fun z => c ⟨c1, z⟩
      simp (discharger := omega) only [zm132, zE_0, zE_1, zE_2, zE_3, zE_4, zE_5, zE_6, zE_7, zE_8, zE_9, zE_10, zE_11, zE_12, zE_13, zE_14, zE_neg, zc131, if_pos c1, if_neg c2, ↓zb_s, ↓zb_x]
    · simp (discharger := omega) only [zm132, zE_0, zE_1, zE_2, zE_3, zE_4, zE_5, zE_6, zE_7, zE_8, zE_9, zE_10, zE_11, zE_12, zE_13, zE_14, zE_neg, zc131, if_neg c1, ↓zb_x]
theorem zc134 {h : zH} {s : zS} (hC : zCA h s) {a : Int} (a1 : -1 ≤ a) (a2 : a < s 2 0) : zm134 (zrf 0 a) h = some (.inl (zE a), h) := by
  by_cases c : a = -1
  · subst c
    rfl
  · have n : ¬ (some (0, a.toNat) : zq) = none := fun z => by cases z
    rw [zrf_s (by omega), zm134, if_neg n, zo_0, zCa0 hC (by omega) a2]
