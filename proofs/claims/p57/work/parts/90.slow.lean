set_option maxRecDepth 16384
/-! Samples: buckets, the slow bucket, the pairs. -/
theorem zbk_0 {m : Int} (h : m ≤ 0) : zbk m = 0 := if_pos h
theorem zbk_s {m : Int} (h : 0 < m) : zbk m = zbk (m / 2) + 1 := by
  have e : zbk m = (Nat.log2 m.toNat : Int) + 1 := if_neg (by omega)
  rw [e]
  by_cases k : m = 1
  · subst k
    rw [zbk_0 (by decide)]
    rfl
  · have h2 : 0 < m / 2 := by omega
    rw [show zbk (m / 2) = (Nat.log2 (m / 2).toNat : Int) + 1 from if_neg (by omega)]
    have h3 : Nat.log2 m.toNat = Nat.log2 (m.toNat / 2) + 1 := by
      rw [Nat.log2_def, if_pos (by omega)]
    rw [h3, show (m / 2).toNat = m.toNat / 2 by omega]
    rfl
theorem zbk_r : ∀ (n : Nat) (m : Int), m < 2 ^ n → 0 ≤ zbk m ∧ zbk m ≤ n
  | 0, m, h => by
    rw [zbk_0 (by omega)]
    omega
  | n + 1, m, h => by
    by_cases k : m ≤ 0
    · rw [zbk_0 k]
      omega
    · rw [zbk_s (by omega)]
      have h2 : m < 2 * 2 ^ n := by
        rw [Int.pow_succ] at h
        omega
      have := zbk_r n (m / 2) (by omega)
      omega
theorem zbk_16 {m : Int} (h : m ≤ 60000) : 0 ≤ zbk m ∧ zbk m ≤ 16 := zbk_r 16 m (by omega)
/-- how many measures of a sample are below a bucket -/
noncomputable def zcu (s : zS) (w b : Int) : Int := zcnt (fun x => zbk (s 49 (600 * w + x)) < b) (s 47 w).toNat
theorem zcnt_lt {f : Int → Int} {b : Int} : ∀ n : Nat, zcnt (fun x => f x < b + 1) n = zcnt (fun x => f x < b) n + zcnt (fun x => f x = b) n
  | 0 => rfl
  | n + 1 => by
    have ih := zcnt_lt (f := f) (b := b) n
    show zcnt _ n + zcn1 (f n < b + 1) = (zcnt _ n + zcn1 (f n < b)) + (zcnt _ n + zcn1 (f n = b))
    rw [ih]
    by_cases h1 : f n < b
    · rw [zcn1_t h1, zcn1_t (by omega : f n < b + 1), zcn1_f (by omega : ¬ f n = b)]; omega
    · by_cases h2 : f n = b
      · rw [zcn1_f h1, zcn1_t (by omega : f n < b + 1), zcn1_t h2]; omega
      · rw [zcn1_f h1, zcn1_f (by omega : ¬ f n < b + 1), zcn1_f h2]; omega
theorem zcnt_all {P : Int → Prop} : ∀ n : Nat, (∀ i : Int, 0 ≤ i → i < n → P i) → zcnt P n = n
  | 0, _ => rfl
  | n + 1, h => by
    show zcnt P n + zcn1 (P n) = _
    rw [zcnt_all n (fun i a b => h i a (by omega)), zcn1_t (h n (by omega) (by omega))]
    rfl
theorem zcu_s {s : zS} {w b : Int} : zcu s w (b + 1) = zcu s w b + zcnt (fun x => zbk (s 49 (600 * w + x)) = b) (s 47 w).toNat := zcnt_lt _
theorem zcu_0 {s : zS} {w : Int} : zcu s w 0 = 0 := (zcnt_0 _).mpr fun ⟨x, _, _, h⟩ => by
  have h : zbk (s 49 (600 * w + x)) < 0 := h
  unfold zbk at h
  split at h
  · omega
  · omega
theorem zcu_r {s : zS} {w b : Int} (h : 0 ≤ s 47 w) : 0 ≤ zcu s w b ∧ zcu s w b ≤ s 47 w := by
  have := zcnt_r (fun x => zbk (s 49 (600 * w + x)) < b) (s 47 w).toNat
  unfold zcu
  omega
theorem zcu_17 {s : zS} {w : Int} (hM : zWm s) (w0 : 0 ≤ w) (w1 : w < 24) : zcu s w 17 = s 47 w := by
  obtain ⟨h1, h2⟩ := hM.2 w w0 w1
  unfold zcu
  rw [zcnt_all _ fun x x0 x1 => by
    have := zbk_16 (m := s 49 (600 * w + x)) (h2 x x0 (by omega)).2.2
    omega]
  omega
/-- the slow bucket, looked for from 17 - j on -/
noncomputable def zslN (s : zS) (w : Int) : Nat → Int
  | 0 => 16
  | j + 1 => if 9 * s 47 w ≤ 10 * zcu s w (17 - j) then 16 - j else zslN s w j
noncomputable def zsl' (s : zS) (w : Int) : Int := zslN s w 17
theorem zslN_r {s : zS} {w : Int} : ∀ j : Nat, j ≤ 17 → 0 ≤ zslN s w j ∧ zslN s w j ≤ 16
  | 0, _ => by show 0 ≤ (16 : Int) ∧ (16 : Int) ≤ 16; omega
  | j + 1, h => by
    show 0 ≤ (if 9 * s 47 w ≤ 10 * zcu s w (17 - j) then 16 - (j : Int) else zslN s w j) ∧ (if 9 * s 47 w ≤ 10 * zcu s w (17 - j) then 16 - (j : Int) else zslN s w j) ≤ 16
    split
    · omega
    · exact zslN_r j (by omega)
theorem zslN_s {s : zS} {w b : Int} (b0 : 0 ≤ b) (b1 : b < 17) : zslN s w (17 - b).toNat = if 9 * s 47 w ≤ 10 * zcu s w (b + 1) then b else zslN s w (17 - (b + 1)).toNat := by
  rw [show (17 - b).toNat = (17 - (b + 1)).toNat + 1 by omega]
  show (if 9 * s 47 w ≤ 10 * zcu s w (17 - (((17 - (b + 1)).toNat : Nat) : Int)) then 16 - (((17 - (b + 1)).toNat : Nat) : Int) else _) = _
  rw [show (((17 - (b + 1)).toNat : Nat) : Int) = 16 - b by omega, show (17 : Int) - (16 - b) = b + 1 by omega, show (16 : Int) - (16 - b) = b by omega]
/-- a sample's places -/
theorem zsmp {h : zH} {s : zS} (hC : zCM h s) {w : Int} (w0 : 0 ≤ w) (w1 : w < 24) : ∃ c : Nat × Nat, (c.1 = 30 ∨ c.1 = 32) ∧ zr h (zsk w) (w / 2).toNat 0 = some c ∧ (s 47 w ≤ (zln h c.1 c.2 : Int) ∧ 8 ≤ zln h c.1 c.2 ∧ zln h c.1 c.2 ≤ 2048) ∧ (∀ x : Int, 0 ≤ x → x < s 47 w → zi h c.1 c.2 x.toNat = zE (2 * zbk (s 49 (600 * w + x)) + s 48 (600 * w + x))) ∧ zi h (zsk w) (w / 2).toNat 1 = zE (s 47 w) ∧ zi h (zsk w) (w / 2).toNat 2 = zE (zcnt (fun x => s 48 (600 * w + x) = 1) (s 47 w).toNat) ∧ zr h (zsk w) (w / 2).toNat 3 = some (31, zbi w) ∧ zln h 31 (zbi w) = 17 ∧ ∀ b : Int, 0 ≤ b → b < 17 → zi h 31 (zbi w) b.toNat = zE (zcnt (fun x => zbk (s 49 (600 * w + x)) = b) (s 47 w).toNat) := by
  obtain ⟨⟨cd, m1, m2⟩, m3⟩ := hC
  obtain ⟨k1, k2, k3, k4, k5, k6, k7, k8, k9⟩ := m2 w w0 w1
  exact ⟨cd w, k1.1, k2, k3, k4, k5, k6, k7, k8, k9⟩
theorem zo_7g {α : Type} {f : Nat → Nat → Option α} {w : Int} {i : Nat} : zob 7 (some (zsk w, i)) f = f (zsk w) i := by
  unfold zsk
  split
  · rfl
  · rfl
theorem zc23 {h : zH} {s : zS} (hC : zCM h s) (hM : zWm s) {w t : Int} (w0 : 0 ≤ w) (w1 : w < 24) (t0 : 0 ≤ t) (t1 : t ≤ 600) : zm23 (some (zsk w, (w / 2).toNat)) (zE t) h = some (.inl (zE (if 9 * s 47 w ≤ 10 * t then 1 else 0)), h) := by
  obtain ⟨c, k1, k2, k3, k4, k5, k6, k7, k8, k9⟩ := zsmp hC w0 w1
  have hm := hM.1
  have h2 := (hM.2 w w0 w1).1
  by_cases e : 9 * s 47 w ≤ 10 * t
  · have e2 : ¬ t * 10 < s 47 w * 9 := by omega
    rw [if_pos e]
    simp (discharger := omega) only [zm23, ↓zo_7g, k5, zE_0, zE_1, zE_2, zE_3, zE_4, zE_5, zE_6, zE_7, zE_8, zE_9, zE_10, zE_11, zE_12, zE_13, zE_14, zE_neg, zE_mul, zE_lt, e2, if_false]
  · have e2 : t * 10 < s 47 w * 9 := by omega
    rw [if_neg e]
    simp (discharger := omega) only [zm23, ↓zo_7g, k5, zE_0, zE_1, zE_2, zE_3, zE_4, zE_5, zE_6, zE_7, zE_8, zE_9, zE_10, zE_11, zE_12, zE_13, zE_14, zE_neg, zE_mul, zE_lt, e2, if_true]
theorem zc21 {h : zH} {s : zS} (hC : zCM h s) (hM : zWm s) {w : Int} (w0 : 0 ≤ w) (w1 : w < 24) : zm21 (some (zsk w, (w / 2).toNat)) h = some (.inl (zE (zsl' s w)), h) := by
  obtain ⟨c, k1, k2, k3, k4, k5, k6, k7, k8, k9⟩ := zsmp hC w0 w1
  have hm := hM.1
  have h2 := (hM.2 w w0 w1).1
  have z1 : ¬ zE 1 = zE 0 := by decide
  rw [zm21, zE_0]
  refine zloop0 (W := fun n i t => zm21_4 n (some (zsk w, (w / 2).toNat)) (zE t) (zE i) h) (N := 17) (fun i t => t = zcu s w i ∧ zsl' s w = zslN s w (17 - i).toNat) (fun r => r = some (.inl (zE (zsl' s w)), h)) 0 ⟨zcu_0.symm, rfl⟩ (by omega) (by omega) ?_ ?_
  · rintro n t ⟨rfl, hb⟩
    rw [hb]
    show zm21_4 (n + 1) _ _ _ _ = some (.inl (zE 16), h)
    simp (discharger := omega) only [zm21_4, zE_17, Int32.le_refl, if_true, zE_16]
  · rintro n i t i0 i1 ⟨rfl, hb⟩
    have h3 : ¬ (17 : Int) ≤ i := by omega
    have hr := zcu_r (s := s) (w := w) (b := i + 1) h2.1
    have e1 : ∀ f : Int32 → zRs Int32, zri (zr h (zsk w) (w / 2).toNat 3) (zE i) h f = f (zE (zcnt (fun x => zbk (s 49 (600 * w + x)) = i) (s 47 w).toNat)) := fun f => zri_s k7 rfl k8 i0 (by omega) (by omega) (k9 i i0 i1)
    rw [zslN_s i0 i1] at hb
    by_cases e : 9 * s 47 w ≤ 10 * zcu s w (i + 1)
    · rw [if_pos e] at hb
      refine Or.inl ?_
      have e23 := zc23 hC hM w0 w1 hr.1 (by omega : zcu s w (i + 1) ≤ 600)
      rw [if_pos e] at e23
      simp (discharger := omega) only [zm21_4, zE_17, zE_le, h3, if_false, ↓zo_7g, ↓e1, ↓zlet_s, zE_add, ← zcu_s, e23, ↓zb_s, zE_0, zE_1, zE_2, zE_3, zE_4, zE_5, zE_6, zE_7, zE_8, zE_9, zE_10, zE_11, zE_12, zE_13, zE_14, zE_neg, z1, hb]
    · rw [if_neg e] at hb
      refine Or.inr ⟨_, ⟨rfl, hb⟩, ?_⟩
      have e23 := zc23 hC hM w0 w1 hr.1 (by omega : zcu s w (i + 1) ≤ 600)
      rw [if_neg e] at e23
      simp (discharger := omega) only [zm21_4, zE_17, zE_le, h3, if_false, ↓zo_7g, ↓e1, ↓zlet_s, zE_add, ← zcu_s, e23, ↓zb_s, zE_0, zE_1, zE_2, zE_3, zE_4, zE_5, zE_6, zE_7, zE_8, zE_9, zE_10, zE_11, zE_12, zE_13, zE_14, zE_neg, if_true]
theorem zcod : ∀ x, x < 34 → (Int32.ofInt (x : Nat) >>> ((1 : Int32) &&& 31)) = Int32.ofInt ((x / 2 : Nat) : Int) ∧ (Int32.ofInt (x : Nat) &&& (1 : Int32)) = Int32.ofInt ((x % 2 : Nat) : Int) := by decide +kernel
theorem zcod_s {b q : Int} (b0 : 0 ≤ b) (b1 : b ≤ 16) (q0 : 0 ≤ q) (q1 : q ≤ 1) : (zE (2 * b + q) >>> (zE 1 &&& 31)) = zE b ∧ (zE (2 * b + q) &&& zE 1) = zE q := by
  obtain ⟨h1, h2⟩ := zcod (2 * b + q).toNat (by omega)
  rw [← zE_1]
  unfold zE
  rw [show ((2 * b + q).toNat : Int) = 2 * b + q by omega] at h1 h2
  rw [h1, h2, show (((2 * b + q).toNat / 2 : Nat) : Int) = b by omega, show (((2 * b + q).toNat % 2 : Nat) : Int) = q by omega]
  exact ⟨rfl, rfl⟩
theorem zc22_9 {h : zH} {s : zS} (hC : zCM h s) (hM : zWm s) {k2 : zq → Int32 → Int32 → zH → zRs Int32} {w b : Int} (w0 : 0 ≤ w) (w1 : w < 24) (b0 : 0 ≤ b) (b1 : b < 17) : zm22_9 k2 zN0 (some (zsk w, (w / 2).toNat)) (zE b) (zE 0) (zE 0) h = k2 (some (zsk w, (w / 2).toNat)) (zE b) (zE (zcu s w (b + 1))) h := by
  obtain ⟨c, k1, kk2, k3, k4, k5, k6, k7, k8, k9⟩ := zsmp hC w0 w1
  have hm := hM.1
  obtain ⟨h2, h3⟩ := hM.2 w w0 w1
  refine zloop0 (W := fun n i t => zm22_9 k2 n (some (zsk w, (w / 2).toNat)) (zE b) (zE t) (zE i) h) (N := s 47 w) (fun i t => t = zcnt (fun x => zbk (s 49 (600 * w + x)) < b + 1) i.toNat) (fun r => r = k2 (some (zsk w, (w / 2).toNat)) (zE b) (zE (zcu s w (b + 1))) h) 0 rfl h2.1 (by omega) ?_ ?_
  · rintro n t rfl
    simp (discharger := omega) only [zm22_9, ↓zo_7g, k5, Int32.le_refl, if_true]
    rfl
  · rintro n i t i0 i1 rfl
    have e0 : ¬ s 47 w ≤ i := by omega
    obtain ⟨g1, g2⟩ := h3 i i0 i1
    have hb := zbk_16 g2.2
    obtain ⟨d1, d2⟩ := zcod_s hb.1 hb.2 g1.1 g1.2
    have hk : (ztg c.1 == 1 || ztg c.1 == 10) = true := by rcases k1 with z | z <;> rw [z] <;> rfl
    have e1 : ∀ f : Int32 → zRs Int32, zri (zr h (zsk w) (w / 2).toNat 0) (zE i) h f = f (zE (2 * zbk (s 49 (600 * w + i)) + s 48 (600 * w + i))) := fun f => zri_s (k := c.1) (i := c.2) kk2 hk rfl i0 (by omega) (by omega) (k4 i i0 i1)
    refine Or.inr ⟨_, rfl, ?_⟩
    rw [zcnt_1 i0]
    by_cases e : b < zbk (s 49 (600 * w + i))
    · rw [zcn1_f (by omega : ¬ zbk (s 49 (600 * w + i)) < b + 1)]
      simp (discharger := omega) only [zm22_9, zm22_25, ↓zo_7g, k5, zE_le, e0, if_false, ↓e1, zE_0, zE_1, zE_2, zE_3, zE_4, zE_5, zE_6, zE_7, zE_8, zE_9, zE_10, zE_11, zE_12, zE_13, zE_14, zE_neg, d1, zE_lt, e, if_true, ↓zlet_s, zE_add]
    · rw [zcn1_t (by omega : zbk (s 49 (600 * w + i)) < b + 1)]
      simp (discharger := omega) only [zm22_9, zm22_25, ↓zo_7g, k5, zE_le, e0, if_false, ↓e1, zE_0, zE_1, zE_2, zE_3, zE_4, zE_5, zE_6, zE_7, zE_8, zE_9, zE_10, zE_11, zE_12, zE_13, zE_14, zE_neg, d1, zE_lt, e, ↓zlet_s, zE_add]
theorem zc22 {h : zH} {s : zS} (hC : zCM h s) (hM : zWm s) {w : Int} (w0 : 0 ≤ w) (w1 : w < 24) : zm22 (some (zsk w, (w / 2).toNat)) h = some (.inl (zE (zsl' s w)), h) := by
  have hm := hM.1
  have h2 := (hM.2 w w0 w1).1
  have z1 : ¬ zE 1 = zE 0 := by decide
  rw [zm22, zE_0]
  refine zloop0 (W := fun n i (_ : Unit) => zm22_2 n (some (zsk w, (w / 2).toNat)) (zE i) h) (N := 17) (fun i _ => zsl' s w = zslN s w (17 - i).toNat) (fun r => r = some (.inl (zE (zsl' s w)), h)) () rfl (by omega) (by omega) ?_ ?_
  · rintro n _ hb
    rw [hb]
    show zm22_2 (n + 1) _ _ _ = some (.inl (zE 16), h)
    simp (discharger := omega) only [zm22_2, zE_17, Int32.le_refl, if_true, zE_16]
  · rintro n i _ i0 i1 hb
    have h3 : ¬ (17 : Int) ≤ i := by omega
    have hr := zcu_r (s := s) (w := w) (b := i + 1) h2.1
    rw [zslN_s i0 i1] at hb
    have e23 := zc23 hC hM w0 w1 hr.1 (by omega : zcu s w (i + 1) ≤ 600)
    by_cases e : 9 * s 47 w ≤ 10 * zcu s w (i + 1)
    · rw [if_pos e] at hb e23
      refine Or.inl ?_
      simp (discharger := omega) only [zm22_2, zE_17, zE_le, h3, if_false, zE_0, zE_1, zE_2, zE_3, zE_4, zE_5, zE_6, zE_7, zE_8, zE_9, zE_10, zE_11, zE_12, zE_13, zE_14, zE_neg, zc22_9 hC hM w0 w1 i0 i1, zm22_29, ↓zo_7g, e23, ↓zb_s, z1, hb]
    · rw [if_neg e] at hb e23
      refine Or.inr ⟨(), hb, ?_⟩
      simp (discharger := omega) only [zm22_2, zE_17, zE_le, h3, if_false, zE_0, zE_1, zE_2, zE_3, zE_4, zE_5, zE_6, zE_7, zE_8, zE_9, zE_10, zE_11, zE_12, zE_13, zE_14, zE_neg, zc22_9 hC hM w0 w1 i0 i1, zm22_29, ↓zo_7g, e23, ↓zb_s, if_true, ↓zlet_s, zE_add]
