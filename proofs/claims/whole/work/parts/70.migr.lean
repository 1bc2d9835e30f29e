set_option maxRecDepth 16384
/-! migrate, contract. -/
def zmgP (s : zS) (v k a : Int) : Prop := zlv s a (-1) ∧ s 3 a = v ∧ ¬ zbt (s 8 a) k
def zctP (s : zS) (v k a : Int) : Prop := zlv s a (-1) ∧ s 3 a = v ∧ s 9 a = k
theorem zc96 {h : zH} {s : zS} (hR : zCr h) (hC : zCA h s) (hA : zWa s) (hK : zWk s) (hS : zWc s) {v k : Int} (v1 : 0 ≤ v) (v2 : v ≤ 3) (k1 : 0 ≤ k) (k2 : k ≤ 7) : ∃ b, zbo b (¬ zxs 0 (s 2 0) (zmgP s v k)) ∧ zm96 (some (12, 0)) (zE v) (zE k) h = some (.inl (zE b), h) := by
  have hn := hA.1
  have z1 : ¬ zE 1 = zE 0 := by decide
  rw [zm96, zE_0]
  refine zloop0 (W := fun n i (_ : Unit) => zm96_2 n (some (12, 0)) (zE v) (zE k) (zE i) h) (N := s 2 0) (fun i _ => ¬ zxs 0 i (zmgP s v k)) (fun r => ∃ b, zbo b (¬ zxs 0 (s 2 0) (zmgP s v k)) ∧ r = some (.inl (zE b), h)) () zxs_n (by omega) (by omega) ?_ ?_
  · intro n _ hb
    refine ⟨1, zbo_1 hb, ?_⟩
    simp (discharger := omega) only [zm96_2, ↓zo_12, ↓zLAz hR hC, Int32.le_refl, if_true, zE_0, zE_1, zE_2, zE_3, zE_4, zE_5, zE_6, zE_7, zE_8, zE_9, zE_10, zE_11, zE_12, zE_13, zE_14, zE_neg]
  · intro n i _ h1 h2 hb
    have h3 : ¬ s 2 0 ≤ i := by omega
    have hu := zus_r s i
    have hp := zus_p hA hK hS h1 h2
    obtain ⟨w3, -, -, -, -, w8, w9, -⟩ := hA.2 i h1 h2
    have go : ¬ zmgP s v k i → zm96_2 (n + 1) (some (12, 0)) (zE v) (zE k) (zE i) h = zm96_2 n (some (12, 0)) (zE v) (zE k) (zE (i + 1)) h → (∃ b, zbo b (¬ zxs 0 (s 2 0) (zmgP s v k)) ∧ zm96_2 (n + 1) (some (12, 0)) (zE v) (zE k) (zE i) h = some (.inl (zE b), h)) ∨ ∃ x' : Unit, ¬ zxs 0 (i + 1) (zmgP s v k) ∧ zm96_2 (n + 1) (some (12, 0)) (zE v) (zE k) (zE i) h = zm96_2 n (some (12, 0)) (zE v) (zE k) (zE (i + 1)) h := by
      intro q1 q2
      refine Or.inr ⟨(), ?_, q2⟩
      rw [zxs_s h1]
      exact fun z => z.elim hb q1
    by_cases e1 : s 3 i = v
    · by_cases e2 : zus s i ≤ 0
      · refine go (fun z => by have := hp.mpr z.1; omega) ?_
        simp (discharger := omega) only [zm96_2, zm96_27, ↓zo_12, ↓zo_0, ↓zlet_s, ↓zLAz hR hC, ↓zLAg hR hC, zCa1 hC, zCa10 hC, zE_le, zE_0, zE_1, zE_2, zE_3, zE_4, zE_5, zE_6, zE_7, zE_8, zE_9, zE_10, zE_11, zE_12, zE_13, zE_14, zE_neg, zE_inj, zE_add, h3, e1, e2, if_true, if_false]
      · obtain ⟨b, b1, b2⟩ := zc133 (h := h) (x := s 8 i) (k := k) (by omega) (by omega) (by omega) (by omega)
        by_cases e3 : zbt (s 8 i) k
        · have : b = 1 := b1.u (zbo_1 e3)
          subst this
          refine go (fun z => z.2.2 e3) ?_
          simp (discharger := omega) only [zm96_2, zm96_27, ↓zo_12, ↓zo_0, ↓zlet_s, ↓zLAz hR hC, ↓zLAg hR hC, zCa1 hC, zCa6 hC, zCa10 hC, zE_le, zE_0, zE_1, zE_2, zE_3, zE_4, zE_5, zE_6, zE_7, zE_8, zE_9, zE_10, zE_11, zE_12, zE_13, zE_14, zE_neg, zE_inj, zE_add, h3, e1, e2, b2, ↓zb_s, z1, if_true, if_false]
        · have : b = 0 := b1.u (zbo_0 e3)
          subst this
          refine Or.inl ⟨0, zbo_0 (fun z => z ⟨i, h1, h2, hp.mp (by omega), e1, e3⟩), ?_⟩
          simp (discharger := omega) only [zm96_2, zm96_27, ↓zo_12, ↓zo_0, ↓zlet_s, ↓zLAz hR hC, ↓zLAg hR hC, zCa1 hC, zCa6 hC, zCa10 hC, zE_le, zE_0, zE_1, zE_2, zE_3, zE_4, zE_5, zE_6, zE_7, zE_8, zE_9, zE_10, zE_11, zE_12, zE_13, zE_14, zE_neg, zE_inj, h3, e1, e2, b2, ↓zb_s, if_true, if_false]
    · refine go (fun z => e1 z.2.1) ?_
      simp (discharger := omega) only [zm96_2, zm96_27, ↓zo_12, ↓zo_0, ↓zlet_s, ↓zLAz hR hC, ↓zLAg hR hC, zCa1 hC, zE_le, zE_0, zE_1, zE_2, zE_3, zE_4, zE_5, zE_6, zE_7, zE_8, zE_9, zE_10, zE_11, zE_12, zE_13, zE_14, zE_neg, zE_inj, zE_add, h3, e1, if_false]
theorem zc99 {h : zH} {s : zS} (hR : zCr h) (hC : zCA h s) (hA : zWa s) (hK : zWk s) (hS : zWc s) {v k : Int} (v1 : 0 ≤ v) (v2 : v ≤ 3) (k1 : 0 ≤ k) (k2 : k ≤ 7) : ∃ b, zbo b (zxs 0 (s 2 0) (zctP s v k)) ∧ zm99 (some (12, 0)) (zE v) (zE k) h = some (.inl (zE b), h) := by
  have hn := hA.1
  rw [zm99, zE_0]
  refine zloop0 (W := fun n i (_ : Unit) => zm99_2 n (some (12, 0)) (zE v) (zE k) (zE i) h) (N := s 2 0) (fun i _ => ¬ zxs 0 i (zctP s v k)) (fun r => ∃ b, zbo b (zxs 0 (s 2 0) (zctP s v k)) ∧ r = some (.inl (zE b), h)) () zxs_n (by omega) (by omega) ?_ ?_
  · intro n _ hb
    refine ⟨0, zbo_0 hb, ?_⟩
    simp (discharger := omega) only [zm99_2, ↓zo_12, ↓zLAz hR hC, Int32.le_refl, if_true, zE_0, zE_1, zE_2, zE_3, zE_4, zE_5, zE_6, zE_7, zE_8, zE_9, zE_10, zE_11, zE_12, zE_13, zE_14, zE_neg]
  · intro n i _ h1 h2 hb
    have h3 : ¬ s 2 0 ≤ i := by omega
    have hu := zus_r s i
    have hp := zus_p hA hK hS h1 h2
    obtain ⟨w3, -, -, -, -, w8, w9, -⟩ := hA.2 i h1 h2
    have go : ¬ zctP s v k i → zm99_2 (n + 1) (some (12, 0)) (zE v) (zE k) (zE i) h = zm99_2 n (some (12, 0)) (zE v) (zE k) (zE (i + 1)) h → (∃ b, zbo b (zxs 0 (s 2 0) (zctP s v k)) ∧ zm99_2 (n + 1) (some (12, 0)) (zE v) (zE k) (zE i) h = some (.inl (zE b), h)) ∨ ∃ x' : Unit, ¬ zxs 0 (i + 1) (zctP s v k) ∧ zm99_2 (n + 1) (some (12, 0)) (zE v) (zE k) (zE i) h = zm99_2 n (some (12, 0)) (zE v) (zE k) (zE (i + 1)) h := by
      intro q1 q2
      refine Or.inr ⟨(), ?_, q2⟩
      rw [zxs_s h1]
      exact fun z => z.elim hb q1
    by_cases e1 : s 3 i = v
    · by_cases e2 : zus s i ≤ 0
      · refine go (fun z => by have := hp.mpr z.1; omega) ?_
        simp (discharger := omega) only [zm99_2, zm99_26, ↓zo_12, ↓zo_0, ↓zlet_s, ↓zLAz hR hC, ↓zLAg hR hC, zCa1 hC, zCa10 hC, zE_le, zE_0, zE_1, zE_2, zE_3, zE_4, zE_5, zE_6, zE_7, zE_8, zE_9, zE_10, zE_11, zE_12, zE_13, zE_14, zE_neg, zE_inj, zE_add, h3, e1, e2, if_true, if_false]
      · by_cases e3 : s 9 i = k
        · refine Or.inl ⟨1, zbo_1 ⟨i, h1, h2, hp.mp (by omega), e1, e3⟩, ?_⟩
          simp (discharger := omega) only [zm99_2, zm99_26, ↓zo_12, ↓zo_0, ↓zlet_s, ↓zLAz hR hC, ↓zLAg hR hC, zCa1 hC, zCa7 hC, zCa10 hC, zE_le, zE_0, zE_1, zE_2, zE_3, zE_4, zE_5, zE_6, zE_7, zE_8, zE_9, zE_10, zE_11, zE_12, zE_13, zE_14, zE_neg, zE_inj, h3, e1, e2, e3, if_true, if_false]
        · refine go (fun z => e3 z.2.2) ?_
          simp (discharger := omega) only [zm99_2, zm99_26, ↓zo_12, ↓zo_0, ↓zlet_s, ↓zLAz hR hC, ↓zLAg hR hC, zCa1 hC, zCa7 hC, zCa10 hC, zE_le, zE_0, zE_1, zE_2, zE_3, zE_4, zE_5, zE_6, zE_7, zE_8, zE_9, zE_10, zE_11, zE_12, zE_13, zE_14, zE_neg, zE_inj, zE_add, h3, e1, e2, e3, if_true, if_false]
    · refine go (fun z => e1 z.2.1) ?_
      simp (discharger := omega) only [zm99_2, zm99_26, ↓zo_12, ↓zo_0, ↓zlet_s, ↓zLAz hR hC, ↓zLAg hR hC, zCa1 hC, zE_le, zE_0, zE_1, zE_2, zE_3, zE_4, zE_5, zE_6, zE_7, zE_8, zE_9, zE_10, zE_11, zE_12, zE_13, zE_14, zE_neg, zE_inj, zE_add, h3, e1, if_false]
theorem zp203_32 {h : zH} {s : zS} (hM : zMd h s) (hA : zWa s) (hK : zWk s) (hC : zWc s) {k4 : zq → Int32 → Int32 → Int32 → Int32 → Int32 → zH → zRs Int32} {v k m i t q : Int} {T Q : Prop} (v1 : 0 ≤ v) (v2 : v ≤ 3) (i1 : 0 ≤ i) (i2 : i < s 2 0) (ht : zbo t T) (hq : zbo q Q) : ∃ t', zbo t' (T ∨ (zlv s i (-1) ∧ s 3 i = v ∧ Q)) ∧ zm203_32 k4 (some (13, 0)) (zE v) (zE k) (zE m) (zE t) (zE i) (zE q) h = k4 (some (13, 0)) (zE v) (zE k) (zE m) (zE t') (zE (i + 1)) h := by
  have hn := hA.1
  have z1 : ¬ zE 1 = zE 0 := by decide
  obtain ⟨w3, -⟩ := hA.2 i i1 i2
  rcases ht with ⟨rfl, ht⟩ | ⟨rfl, ht⟩
  all_goals first
    | (refine ⟨1, zbo_1 (Or.inl ht), ?_⟩
       simp only [zm203_32, zm203_51, zE_0, zE_1, zE_2, zE_3, zE_4, zE_5, zE_6, zE_7, zE_8, zE_9, zE_10, zE_11, zE_12, zE_13, zE_14, zE_neg, z1, if_false, ↓zlet_s, zE_add]; done)
    | skip
  by_cases e : s 3 i = v
  · obtain ⟨l, l1, l2⟩ := zp148 hM hA hK hC (a := i) (w := -1) i1 i2 (by omega)
    rcases hq with ⟨rfl, hq⟩ | ⟨rfl, hq⟩
    all_goals first
      | (refine ⟨0, zbo_0 (fun z => z.elim ht fun y => hq y.2.2), ?_⟩
         simp (discharger := omega) only [zm203_32, zm203_51, zE_0, zE_1, zE_2, zE_3, zE_4, zE_5, zE_6, zE_7, zE_8, zE_9, zE_10, zE_11, zE_12, zE_13, zE_14, zE_neg, if_true, ↓zM_ob, ↓zMi3 hM, e, ↓zlet_s, zE_add]; done)
      | skip
    rcases l1 with ⟨rfl, l1⟩ | ⟨rfl, l1⟩
    all_goals first
      | (refine ⟨0, zbo_0 (fun z => z.elim ht fun y => l1 y.1), ?_⟩
         simp (discharger := omega) only [zm203_32, zm203_51, zE_0, zE_1, zE_2, zE_3, zE_4, zE_5, zE_6, zE_7, zE_8, zE_9, zE_10, zE_11, zE_12, zE_13, zE_14, zE_neg, if_true, ↓zM_ob, ↓zMi3 hM, e, z1, if_false, l2, ↓zb_s, ↓zlet_s, zE_add]; done)
      | (refine ⟨1, zbo_1 (Or.inr ⟨l1, e, hq⟩), ?_⟩
         simp (discharger := omega) only [zm203_32, zm203_51, zE_0, zE_1, zE_2, zE_3, zE_4, zE_5, zE_6, zE_7, zE_8, zE_9, zE_10, zE_11, zE_12, zE_13, zE_14, zE_neg, if_true, ↓zM_ob, ↓zMi3 hM, e, z1, if_false, l2, ↓zb_s, ↓zlet_s, zE_add]; done)
  · refine ⟨0, zbo_0 (fun z => z.elim ht fun y => e y.2.1), ?_⟩
    simp (discharger := omega) only [zm203_32, zm203_51, zE_0, zE_1, zE_2, zE_3, zE_4, zE_5, zE_6, zE_7, zE_8, zE_9, zE_10, zE_11, zE_12, zE_13, zE_14, zE_neg, if_true, ↓zM_ob, ↓zMi3 hM, zE_inj, e, if_false, ↓zlet_s, zE_add]
theorem zp203_0 {h : zH} {s : zS} (hM : zMd h s) (hA : zWa s) (hK : zWk s) (hC : zWc s) {v k : Int} (v1 : 0 ≤ v) (v2 : v ≤ 3) (k1 : 0 ≤ k) (k2 : k ≤ 7) : ∃ b, zbo b (zxs 0 (s 2 0) (zmgP s v k)) ∧ zm203 (some (13, 0)) (zE v) (zE k) (zE 0) h = some (.inl (zE b), h) := by
  have hn := hA.1
  have z1 : ¬ zE 1 = zE 0 := by decide
  rw [zm203, zE_0]
  refine zloop0 (W := fun n i t => zm203_4 n (some (13, 0)) (zE v) (zE k) (zE 0) (zE t) (zE i) h) (N := s 2 0) (fun i t => zbo t (zxs 0 i (zmgP s v k))) (fun r => ∃ b, zbo b (zxs 0 (s 2 0) (zmgP s v k)) ∧ r = some (.inl (zE b), h)) 0 (zbo_0 zxs_n) hn.1 (by omega) ?_ ?_
  · intro n t hb
    refine ⟨t, hb, ?_⟩
    simp (discharger := omega) only [zm203_4, ↓zM_ob, zMs2 hM, Int32.le_refl, if_true]
    exact zif_s (zE_01 (by have := hb.r; omega))
  · intro n i t h1 h2 hb
    have h3 : ¬ s 2 0 ≤ i := by omega
    obtain ⟨w3, -, -, -, -, w8, w9, -⟩ := hA.2 i h1 h2
    obtain ⟨d, d1, d2⟩ := zbt_m (x := s 8 i) (k := k) (by omega) (by omega) (by omega) (by omega)
    obtain ⟨q, hq, q2⟩ : ∃ q, zbo q (¬ zbt (s 8 i) k) ∧ zm203_4 (n + 1) (some (13, 0)) (zE v) (zE k) (zE 0) (zE t) (zE i) h = zm203_32 (zm203_4 n) (some (13, 0)) (zE v) (zE k) (zE 0) (zE t) (zE i) (zE q) h := by
      by_cases e : zbt (s 8 i) k
      · have : d = 1 := d1.u (zbo_1 e)
        subst this
        refine ⟨0, zbo_0 (fun z => z e), ?_⟩
        simp (discharger := omega) only [zm203_4, ↓zM_ob, zMs2 hM, zE_le, h3, if_false, zE_0, zE_1, zE_2, zE_3, zE_4, zE_5, zE_6, zE_7, zE_8, zE_9, zE_10, zE_11, zE_12, zE_13, zE_14, zE_neg, if_true, ↓zMi8 hM, d2, z1]
      · have : d = 0 := d1.u (zbo_0 e)
        subst this
        refine ⟨1, zbo_1 e, ?_⟩
        simp (discharger := omega) only [zm203_4, ↓zM_ob, zMs2 hM, zE_le, h3, if_false, zE_0, zE_1, zE_2, zE_3, zE_4, zE_5, zE_6, zE_7, zE_8, zE_9, zE_10, zE_11, zE_12, zE_13, zE_14, zE_neg, if_true, ↓zMi8 hM, d2]
    obtain ⟨t', ht, e2⟩ := zp203_32 hM hA hK hC (k4 := zm203_4 n) (k := k) (m := 0) v1 v2 h1 h2 hb hq
    refine Or.inr ⟨t', ?_, q2.trans e2⟩
    rw [zxs_s h1]
    exact ht
theorem zp203_1 {h : zH} {s : zS} (hM : zMd h s) (hA : zWa s) (hK : zWk s) (hC : zWc s) {v k : Int} (v1 : 0 ≤ v) (v2 : v ≤ 3) (k1 : 0 ≤ k) (k2 : k ≤ 7) : ∃ b, zbo b (zxs 0 (s 2 0) (zctP s v k)) ∧ zm203 (some (13, 0)) (zE v) (zE k) (zE 1) h = some (.inl (zE b), h) := by
  have hn := hA.1
  have z1 : ¬ zE 1 = zE 0 := by decide
  rw [zm203, zE_0]
  refine zloop0 (W := fun n i t => zm203_4 n (some (13, 0)) (zE v) (zE k) (zE 1) (zE t) (zE i) h) (N := s 2 0) (fun i t => zbo t (zxs 0 i (zctP s v k))) (fun r => ∃ b, zbo b (zxs 0 (s 2 0) (zctP s v k)) ∧ r = some (.inl (zE b), h)) 0 (zbo_0 zxs_n) hn.1 (by omega) ?_ ?_
  · intro n t hb
    refine ⟨t, hb, ?_⟩
    simp (discharger := omega) only [zm203_4, ↓zM_ob, zMs2 hM, Int32.le_refl, if_true]
    exact zif_s (zE_01 (by have := hb.r; omega))
  · intro n i t h1 h2 hb
    have h3 : ¬ s 2 0 ≤ i := by omega
    obtain ⟨w3, -, -, -, -, w8, w9, -⟩ := hA.2 i h1 h2
    obtain ⟨q, hq, q2⟩ : ∃ q, zbo q (s 9 i = k) ∧ zm203_4 (n + 1) (some (13, 0)) (zE v) (zE k) (zE 1) (zE t) (zE i) h = zm203_32 (zm203_4 n) (some (13, 0)) (zE v) (zE k) (zE 1) (zE t) (zE i) (zE q) h := by
      by_cases e : s 9 i = k
      · refine ⟨1, zbo_1 e, ?_⟩
        simp (discharger := omega) only [zm203_4, ↓zM_ob, zMs2 hM, zE_le, h3, if_false, zE_0, zE_1, zE_2, zE_3, zE_4, zE_5, zE_6, zE_7, zE_8, zE_9, zE_10, zE_11, zE_12, zE_13, zE_14, zE_neg, z1, ↓zMi9 hM, e, if_true]
      · refine ⟨0, zbo_0 e, ?_⟩
        simp (discharger := omega) only [zm203_4, ↓zM_ob, zMs2 hM, zE_le, h3, if_false, zE_0, zE_1, zE_2, zE_3, zE_4, zE_5, zE_6, zE_7, zE_8, zE_9, zE_10, zE_11, zE_12, zE_13, zE_14, zE_neg, z1, ↓zMi9 hM, zE_inj, e]
    obtain ⟨t', ht, e2⟩ := zp203_32 hM hA hK hC (k4 := zm203_4 n) (k := k) (m := 1) v1 v2 h1 h2 hb hq
    refine Or.inr ⟨t', ?_, q2.trans e2⟩
    rw [zxs_s h1]
    exact ht
theorem zw_9_456 {h : zH} {s : zS} {v x y : Int} (hC : zCl h s) (h0 : 0 ≤ v) (h1 : v < 4) : zCl (zsi (zsi (zsi h 9 v.toNat 4 (zE x)) 9 v.toNat 5 (zE y)) 9 v.toNat 6 (zE 0)) (zup (zup (zup s 22 v x) 23 v y) 24 v 0) := by
  obtain ⟨c1, c2, c3, c4, c5, c6, c7, c8, c9, c10, c11, c12, c13, c14⟩ := hC
  refine ⟨c1, c2, c3, c4, c5, c6, c7, c8, ⟨c9.1, fun u u0 u1 => ?_⟩, c10, c11, c12, zCM_w c13 (((zKp_i (by decide)).tr (zKp_i (by decide))).tr (zKp_i (by decide))) rfl rfl rfl rfl, c14⟩
  obtain ⟨p0, p1, p2, p3, p4, p5, p6, p7, p8, p9, p10, p11, p12, p13, p14⟩ := c9.2 u u0 u1
  have f22 : zup (zup (zup s 22 v x) 23 v y) 24 v 0 22 u = zup s 22 v x 22 u := (zup_j (by decide)).trans (zup_j (by decide))
  have f23 : zup (zup (zup s 22 v x) 23 v y) 24 v 0 23 u = zup (zup s 22 v x) 23 v y 23 u := zup_j (by decide)
  by_cases eu : u = v
  · subst eu
    exact ⟨p0, p1, p2, p3, p4, p5, p6, p7, p8, p9, (zi_j (by decide)).trans ((zi_j (by decide)).trans ((zi_j (by decide)).trans p10)), fun _ => (zi_j (by decide)).trans ((zi_j (by decide)).trans (zi_s.trans (congrArg zE (f22.trans zup_s).symm))), (zi_j (by decide)).trans (zi_s.trans (congrArg zE (f23.trans zup_s).symm)), zi_s.trans (congrArg zE zup_s.symm), (zi_j (by decide)).trans ((zi_j (by decide)).trans ((zi_j (by decide)).trans p14))⟩
  · have e2 : u.toNat ≠ v.toNat := by omega
    have g22 : zup (zup (zup s 22 v x) 23 v y) 24 v 0 22 u = s 22 u := f22.trans (zup_a eu)
    have g23 : zup (zup (zup s 22 v x) 23 v y) 24 v 0 23 u = s 23 u := f23.trans ((zup_a eu).trans (zup_j (by decide)))
    have g24 : zup (zup (zup s 22 v x) 23 v y) 24 v 0 24 u = s 24 u := (zup_a eu).trans ((zup_j (by decide)).trans (zup_j (by decide)))
    exact ⟨p0, p1, p2, p3, p4, p5, p6, p7, p8, p9, (zi_i e2).trans ((zi_i e2).trans ((zi_i e2).trans p10)), fun z => (zi_i e2).trans ((zi_i e2).trans ((zi_i e2).trans ((p11 (by rw [g23] at z; exact z)).trans (congrArg zE g22.symm)))), (zi_i e2).trans ((zi_i e2).trans ((zi_i e2).trans (p12.trans (congrArg zE g23.symm)))), (zi_i e2).trans ((zi_i e2).trans ((zi_i e2).trans (p13.trans (congrArg zE g24.symm)))), (zi_i e2).trans ((zi_i e2).trans ((zi_i e2).trans p14))⟩
theorem zp205_x {x1 x2 x3 : Int32} {t : Int} {h : zH} (t1 : 1 ≤ t) (t2 : t ≤ 2) : zm205_40 (some (13, 0)) x1 x2 x3 (some (13, 0)) (zE t) h = some (.inl (), zsi h 13 0 0 (zE t)) := by
  rw [zm205_40, zM_ob, zlet_s, zM_ob, if_neg]
  rw [zi_s, zE_0, zE_inj (by omega) (by omega) (by omega) (by omega)]
  omega
theorem zr_migrate (x y z : Int32) : zPrV (fun h => zm95 (some (12, 0)) x y z h) (fun h => zm205 (some (13, 0)) x y z h) (fun t => if t = 1 then 0 else 1) 2 := by
  intro h s hC hM hW
  obtain ⟨a, rfl, a1, a2⟩ := zE_ex x
  obtain ⟨b, rfl, b1, b2⟩ := zE_ex y
  obtain ⟨k, rfl, k1, k2⟩ := zE_ex z
  have z1 : ¬ zE 1 = zE 0 := by decide
  have cr := hC.1
  have cA := hC.2.2.1
  have cV := hC.2.2.2.2.2.2.2.2.1
  have hW0 := hW
  obtain ⟨wA, wK, wC, wD, wP, wR, wZ, wT, wG, wE, wM, wX⟩ := hW
  have ht := wD.1
  by_cases c : ((0 ≤ a ∧ a ≤ 3) ∧ 0 ≤ b ∧ b ≤ 7) ∧ (0 ≤ k ∧ k ≤ 7) ∧ b ≠ k
  · obtain ⟨c1, c2, c3⟩ := c
    obtain ⟨w21, w22, w23, w24, w50⟩ := wD.2.2 a (by omega) (by omega)
    obtain ⟨d, d1, d2⟩ := zbt_m (x := s 21 a) (k := k) (by omega) (by omega) (by omega) (by omega)
    obtain ⟨e, e1, e2⟩ := zc133 (h := h) (x := s 21 a) (k := k) (by omega) (by omega) (by omega) (by omega)
    have hde : d = e := d1.u e1
    subst hde
    obtain ⟨g, g1, g2⟩ := zc96 cr cA wA wK wC (v := a) (k := k) (by omega) (by omega) (by omega) (by omega)
    have m0 : ∀ h', ∃ p, zbo p ((0 ≤ a ∧ a ≤ 3) ∧ 0 ≤ b ∧ b ≤ 7) ∧ zm202 (some (13, 0)) (zE a) (zE b) h' = some (.inl (zE p), h') := fun h' => zp202 a1 a2 b1 b2
    have m1 : ∀ h', zm202 (some (13, 0)) (zE a) (zE b) h' = some (.inl (zE 1), h') := fun h' => by
      obtain ⟨p, p1, p2⟩ := m0 h'
      rwa [p1.u (zbo_1 c1)] at p2
    have m2 : ∀ h', zm139 (zE k) (zE 0) (zE 7) h' = some (.inl (zE 1), h') := fun h' => by
      obtain ⟨p, p1, p2⟩ := zp139i (h := h') (x := k) (lo := 0) (hi := 7) k1 k2 (by omega) (by omega) (by omega) (by omega)
      rwa [p1.u (zbo_1 c2)] at p2
    have hx : ∀ (hc : zm95 (some (12, 0)) (zE a) (zE b) (zE k) h = some (.inr 1, zro h 1 6)) (hm : ∀ h', zMd h' s → zm205 (some (13, 0)) (zE a) (zE b) (zE k) h' = zm205_40 (some (13, 0)) (zE a) (zE b) (zE k) (some (13, 0)) (zE 2) h'), _ := fun hc hm => zexV (C := fun h => zm95 (some (12, 0)) (zE a) (zE b) (zE k) h) (M := fun h => zm205 (some (13, 0)) (zE a) (zE b) (zE k) h) (ex := fun t => if t = 1 then 0 else 1) (tm := 2) (t := 2) hC hW0 (by omega) (by omega) hc fun h' hM' => (hm h' hM').trans (zp205_x (by omega) (by omega))
    by_cases q1 : s 23 a = -1
    · rcases d1 with ⟨rfl, d1⟩ | ⟨rfl, d1⟩
      · rcases g1 with ⟨rfl, g1⟩ | ⟨rfl, g1⟩
        · have hW' : zWf (zup (zup (zup s 22 a b) 23 a k) 24 a 0) := by
            refine ⟨wA, wK, wC, ⟨wD.1, wD.2.1, fun w w0 w1 => ?_⟩, wP, wR, wZ, wT, wG, wE, wM, wX⟩
            obtain ⟨r1, r2, r3, r4, r5⟩ := wD.2.2 w w0 w1
            have f22 : zup (zup (zup s 22 a b) 23 a k) 24 a 0 22 w = zup s 22 a b 22 w := (zup_j (by decide)).trans (zup_j (by decide))
            have f23 : zup (zup (zup s 22 a b) 23 a k) 24 a 0 23 w = zup (zup s 22 a b) 23 a k 23 w := zup_j (by decide)
            refine ⟨r1, ?_, ?_, ?_, r5⟩
            · rw [f22]
              by_cases e : w = a
              · subst e; rw [zup_s]; omega
              · rw [zup_a e]; exact r2
            · rw [f23]
              by_cases e : w = a
              · subst e; rw [zup_s]; omega
              · rw [zup_a e]; exact r3
            · by_cases e : w = a
              · subst e; rw [zup_s]; show 0 ≤ (0 : Int) ∧ (0 : Int) ≤ 5 * s 1 0; omega
              · rw [zup_a e]; exact r4
          refine zokV (s' := zup (zup (zup s 22 a b) 23 a k) 24 a 0) (by omega) hW' (h1 := zsi (zsi (zsi h 9 a.toNat 4 (zE b)) 9 a.toNat 5 (zE k)) 9 a.toNat 6 (zE 0)) ?_ (zw_9_456 hC c1.1.1 (by omega)) (((zKp_i (fun z => z (by unfold zpc1; decide))).tr (zKp_i (fun z => z (by unfold zpc1; decide)))).tr (zKp_i (fun z => z (by unfold zpc1; decide)))) (by show zce h ≤ _; omega) (by show zso h ≤ _; omega) (fun h' hM' => ?_)
          · simp (discharger := omega) only [zm95, zE_0, zE_1, zE_2, zE_3, zE_4, zE_5, zE_6, zE_7, zE_8, zE_9, zE_10, zE_11, zE_12, zE_13, zE_14, zE_neg, zc131, if_pos c1.1, if_pos c1.2, if_pos c2, ↓zb_s, zE_inj, c3, if_false, ↓zo_12, ↓zo_9, ↓zLVa cr cV, zCv5 cV, zCv3 cV, q1, if_true, e2, z1, g2, ↓zlet_s]
          · have hM1 := hM'.ws 0 (by decide) 0
            have hM2 := hM1.wa (22, 122, 4) (by decide) a b (by omega)
            have hM3 := hM2.wa (23, 123, 4) (by decide) a k (by omega)
            have hM4 := hM3.wa (24, 124, 4) (by decide) a 0 (by omega)
            obtain ⟨f, f1, f2⟩ := zp203_0 hM' wA wK wC (v := a) (k := k) (by omega) (by omega) (by omega) (by omega)
            have : f = 0 := f1.u (zbo_0 g1)
            subst this
            refine ⟨_, zsc_c (zsc_c (zsc_c zsc_up)), ((zup_j (by decide)).trans ((zup_j (by decide)).trans ((zup_j (by decide)).trans zup_s))), _, ?_, hM4, (((zKp_i (fun z => z (Or.inl rfl))).tr (zKp_i (fun z => z (Or.inr (by decide))))).tr (zKp_i (fun z => z (Or.inr (by decide))))).tr (zKp_i (fun z => z (Or.inr (by decide)))), rfl, rfl⟩
            show zm205 (some (13, 0)) (zE a) (zE b) (zE k) h' = _
            simp (discharger := omega) only [zm205, zm205_40, ↓zM_ob, m1, m2, zE_0, zE_1, zE_2, zE_3, zE_4, zE_5, zE_6, zE_7, zE_8, zE_9, zE_10, zE_11, zE_12, zE_13, zE_14, zE_neg, ↓zb_s, z1, zE_inj, c3, if_false, ↓zMi23 hM', q1, ↓zMi21 hM', d2, f2, ↓zlet_s, zMs0 hM1, zup_s, if_true, ↓zMa22 hM1, ↓zMa23 hM2, ↓zMa24 hM3]
        · refine hx ?_ fun h' hM' => ?_
          · simp (discharger := omega) only [zm95, zE_0, zE_1, zE_2, zE_3, zE_4, zE_5, zE_6, zE_7, zE_8, zE_9, zE_10, zE_11, zE_12, zE_13, zE_14, zE_neg, zc131, if_pos c1.1, if_pos c1.2, if_pos c2, ↓zb_s, zE_inj, c3, if_false, ↓zo_12, ↓zo_9, ↓zLVa cr cV, zCv5 cV, zCv3 cV, q1, if_true, e2, z1, g2]
          · obtain ⟨f, f1, f2⟩ := zp203_0 hM' wA wK wC (v := a) (k := k) (by omega) (by omega) (by omega) (by omega)
            have : f = 1 := f1.u (zbo_1 (Classical.not_not.mp g1))
            subst this
            simp (discharger := omega) only [zm205, ↓zM_ob, m1, m2, zE_0, zE_1, zE_2, zE_3, zE_4, zE_5, zE_6, zE_7, zE_8, zE_9, zE_10, zE_11, zE_12, zE_13, zE_14, zE_neg, ↓zb_s, z1, zE_inj, c3, if_false, ↓zMi23 hM', q1, if_true, ↓zMi21 hM', d2, f2]
      · refine hx ?_ fun h' hM' => ?_
        · simp (discharger := omega) only [zm95, zE_0, zE_1, zE_2, zE_3, zE_4, zE_5, zE_6, zE_7, zE_8, zE_9, zE_10, zE_11, zE_12, zE_13, zE_14, zE_neg, zc131, if_pos c1.1, if_pos c1.2, if_pos c2, ↓zb_s, zE_inj, c3, if_false, ↓zo_12, ↓zo_9, ↓zLVa cr cV, zCv5 cV, zCv3 cV, q1, if_true, e2]
        · simp (discharger := omega) only [zm205, ↓zM_ob, m1, m2, zE_0, zE_1, zE_2, zE_3, zE_4, zE_5, zE_6, zE_7, zE_8, zE_9, zE_10, zE_11, zE_12, zE_13, zE_14, zE_neg, ↓zb_s, z1, zE_inj, c3, if_false, ↓zMi23 hM', q1, if_true, ↓zMi21 hM', d2]
    · refine hx ?_ fun h' hM' => ?_
      · simp (discharger := omega) only [zm95, zE_0, zE_1, zE_2, zE_3, zE_4, zE_5, zE_6, zE_7, zE_8, zE_9, zE_10, zE_11, zE_12, zE_13, zE_14, zE_neg, zc131, if_pos c1.1, if_pos c1.2, if_pos c2, ↓zb_s, zE_inj, c3, if_false, ↓zo_12, ↓zo_9, ↓zLVa cr cV, zCv5 cV, q1]
      · simp (discharger := omega) only [zm205, ↓zM_ob, m1, m2, zE_0, zE_1, zE_2, zE_3, zE_4, zE_5, zE_6, zE_7, zE_8, zE_9, zE_10, zE_11, zE_12, zE_13, zE_14, zE_neg, ↓zb_s, z1, zE_inj, c3, if_false, ↓zMi23 hM', q1]
  · refine zexV (t := 1) hC hW0 (by omega) (by omega) ?_ (fun h' hM' => ?_)
    · show zm95 (some (12, 0)) (zE a) (zE b) (zE k) h = some (.inr 0, zro h 1 6)
      by_cases c1 : 0 ≤ a ∧ a ≤ 3
      · by_cases c2 : 0 ≤ b ∧ b ≤ 7
        · by_cases c3 : 0 ≤ k ∧ k ≤ 7
          · have c4 : b = k := Classical.not_not.mp fun z => c ⟨⟨c1, c2⟩, c3, z⟩
            simp (discharger := omega) only [zm95, zE_0, zE_1, zE_2, zE_3, zE_4, zE_5, zE_6, zE_7, zE_8, zE_9, zE_10, zE_11, zE_12, zE_13, zE_14, zE_neg, zc131, if_pos c1, if_pos c2, if_pos c3, ↓zb_s, c4, if_true]
          · simp (discharger := omega) only [zm95, zE_0, zE_1, zE_2, zE_3, zE_4, zE_5, zE_6, zE_7, zE_8, zE_9, zE_10, zE_11, zE_12, zE_13, zE_14, zE_neg, zc131, if_pos c1, if_pos c2, if_neg c3, ↓zb_s, ↓zb_x]
        · simp (discharger := omega) only [zm95, zE_0, zE_1, zE_2, zE_3, zE_4, zE_5, zE_6, zE_7, zE_8, zE_9, zE_10, zE_11, zE_12, zE_13, zE_14, zE_neg, zc131, if_pos c1, if_neg c2, ↓zb_s, ↓zb_x]
      · simp (discharger := omega) only [zm95, zE_0, zE_1, zE_2, zE_3, zE_4, zE_5, zE_6, zE_7, zE_8, zE_9, zE_10, zE_11, zE_12, zE_13, zE_14, zE_neg, zc131, if_neg c1, ↓zb_x]
    · show zm205 (some (13, 0)) (zE a) (zE b) (zE k) h' = _
      obtain ⟨p, p1, p2⟩ := zp202 (h := h') a1 a2 b1 b2
      rcases p1 with ⟨rfl, p1⟩ | ⟨rfl, p1⟩
      · obtain ⟨q, q1, q2⟩ := zp139i (h := h') (x := k) (lo := 0) (hi := 7) k1 k2 (by omega) (by omega) (by omega) (by omega)
        rcases q1 with ⟨rfl, q1⟩ | ⟨rfl, q1⟩
        · have c4 : b = k := Classical.not_not.mp fun z => c ⟨p1, q1, z⟩
          subst c4
          simp (discharger := omega) only [zm205, ↓zM_ob, p2, q2, zE_0, zE_1, zE_2, zE_3, zE_4, zE_5, zE_6, zE_7, zE_8, zE_9, zE_10, zE_11, zE_12, zE_13, zE_14, zE_neg, ↓zb_s, z1, if_false, if_true]
          exact zp205_x (t := 1) (by omega) (by omega)
        · simp (discharger := omega) only [zm205, ↓zM_ob, p2, q2, zE_0, zE_1, zE_2, zE_3, zE_4, zE_5, zE_6, zE_7, zE_8, zE_9, zE_10, zE_11, zE_12, zE_13, zE_14, zE_neg, ↓zb_s, z1, if_false, if_true]
          exact zp205_x (t := 1) (by omega) (by omega)
      · simp (discharger := omega) only [zm205, ↓zM_ob, p2, zE_0, zE_1, zE_2, zE_3, zE_4, zE_5, zE_6, zE_7, zE_8, zE_9, zE_10, zE_11, zE_12, zE_13, zE_14, zE_neg, ↓zb_s, if_true]
        exact zp205_x (t := 1) (by omega) (by omega)
theorem zan_d : ∀ t, t < 256 → ∀ i, i < 8 → ((Int32.ofInt (t : Nat)) &&& (((1 : Int32) <<< ((Int32.ofInt (i : Nat)) &&& 31)) ^^^ (-1 : Int32))) = Int32.ofInt ((t &&& (255 - 1 <<< i) : Nat) : Int) ∧ (t &&& (255 - 1 <<< i)) < 256 := by decide +kernel
theorem zan_s {t i : Int} (h1 : 0 ≤ t) (h2 : t ≤ 255) (h3 : 0 ≤ i) (h4 : i ≤ 7) : ∃ u, (zE t &&& ((zE 1 <<< (zE i &&& 31)) ^^^ zE (-1))) = zE u ∧ 0 ≤ u ∧ u ≤ 255 := by
  obtain ⟨e1, e2⟩ := zan_d t.toNat (by omega) i.toNat (by omega)
  rw [Int.toNat_of_nonneg h1, Int.toNat_of_nonneg h3, zE_m1] at e1
  exact ⟨_, e1, by omega, by omega⟩
theorem zp207_x {x1 x2 : Int32} {h : zH} : zm207_43 (some (13, 0)) x1 x2 (zE 0) h = some (.inl (), zsi h 13 0 0 (zE 2)) := by
  rw [zm207_43, if_pos zE_0.symm, zm207_50, zM_ob, zlet_s, if_pos zE_0.symm, zE_2]
theorem zr_contract (x y : Int32) : zPrV (fun h => zm98 (some (12, 0)) x y h) (fun h => zm207 (some (13, 0)) x y h) (fun t => if t = 1 then 0 else 1) 2 := by
  intro h s hC hM hW
  obtain ⟨a, rfl, a1, a2⟩ := zE_ex x
  obtain ⟨k, rfl, k1, k2⟩ := zE_ex y
  have z1 : ¬ zE 1 = zE 0 := by decide
  have z3 : ¬ zE 0 = zE 1 := by decide
  have cr := hC.1
  have cA := hC.2.2.1
  have cV := hC.2.2.2.2.2.2.2.2.1
  have hW0 := hW
  obtain ⟨wA, wK, wC, wD, wP, wR, wZ, wT, wG, wE, wM, wX⟩ := hW
  have ht := wD.1
  by_cases c : (0 ≤ a ∧ a ≤ 3) ∧ 0 ≤ k ∧ k ≤ 7
  · obtain ⟨w21, w22, w23, w24, w50⟩ := wD.2.2 a (by omega) (by omega)
    have w20 := wD.2.1 (8 * a + k) (by omega) (by omega)
    obtain ⟨d, d1, d2⟩ := zbt_m (x := s 21 a) (k := k) (by omega) (by omega) (by omega) (by omega)
    obtain ⟨e, e1, e2⟩ := zc133 (h := h) (x := s 21 a) (k := k) (by omega) (by omega) (by omega) (by omega)
    have hde : d = e := d1.u e1
    subst hde
    obtain ⟨g, g1, g2⟩ := zc99 cr cA wA wK wC (v := a) (k := k) (by omega) (by omega) (by omega) (by omega)
    have m1 : ∀ h', zm202 (some (13, 0)) (zE a) (zE k) h' = some (.inl (zE 1), h') := fun h' => by
      obtain ⟨p, p1, p2⟩ := zp202 (h := h') a1 a2 k1 k2
      rwa [p1.u (zbo_1 c)] at p2
    have hx : ∀ (hc : zm98 (some (12, 0)) (zE a) (zE k) h = some (.inr 1, zro h 1 6)) (hm : ∀ h', zMd h' s → zm207 (some (13, 0)) (zE a) (zE k) h' = zm207_43 (some (13, 0)) (zE a) (zE k) (zE 0) h'), _ := fun hc hm => zexV (C := fun h => zm98 (some (12, 0)) (zE a) (zE k) h) (M := fun h => zm207 (some (13, 0)) (zE a) (zE k) h) (ex := fun t => if t = 1 then 0 else 1) (tm := 2) (t := 2) hC hW0 (by omega) (by omega) hc fun h' hM' => (hm h' hM').trans zp207_x
    rcases d1 with ⟨rfl, d1⟩ | ⟨rfl, d1⟩
    · by_cases q0 : s 20 (8 * a + k) = 0
      · by_cases q1 : s 23 a = k
        · refine hx ?_ fun h' hM' => ?_
          · simp (discharger := omega) only [zm98, zE_0, zE_1, zE_2, zE_3, zE_4, zE_5, zE_6, zE_7, zE_8, zE_9, zE_10, zE_11, zE_12, zE_13, zE_14, zE_neg, zc131, if_pos c.1, if_pos c.2, ↓zb_s, ↓zo_12, ↓zo_9, ↓zLVa cr cV, zCv3 cV, e2, z1, if_false, ↓zLUi cV, q0, zE_lt, Int.lt_irrefl, zCv5 cV, q1, if_true]
          · obtain ⟨f, f1, f2⟩ := zp203_1 hM' wA wK wC (v := a) (k := k) (by omega) (by omega) (by omega) (by omega)
            rcases f1 with ⟨rfl, f1⟩ | ⟨rfl, f1⟩
            · simp (discharger := omega) only [zm207, ↓zM_ob, m1, zE_0, zE_1, zE_2, zE_3, zE_4, zE_5, zE_6, zE_7, zE_8, zE_9, zE_10, zE_11, zE_12, zE_13, zE_14, zE_neg, ↓zb_s, z1, if_false, ↓zMi21 hM', d2, if_true, zE_8, zri_m8, zE_mul, zE_add, ↓zMi20 hM', q0, f2]
            · simp (discharger := omega) only [zm207, ↓zM_ob, m1, zE_0, zE_1, zE_2, zE_3, zE_4, zE_5, zE_6, zE_7, zE_8, zE_9, zE_10, zE_11, zE_12, zE_13, zE_14, zE_neg, ↓zb_s, z1, if_false, ↓zMi21 hM', d2, if_true, zri_m8, zE_mul, zE_add, ↓zMi20 hM', q0, f2, ↓zMi23 hM', q1]
        · rcases g1 with ⟨rfl, g1⟩ | ⟨rfl, g1⟩
          · refine hx ?_ fun h' hM' => ?_
            · simp (discharger := omega) only [zm98, zE_0, zE_1, zE_2, zE_3, zE_4, zE_5, zE_6, zE_7, zE_8, zE_9, zE_10, zE_11, zE_12, zE_13, zE_14, zE_neg, zc131, if_pos c.1, if_pos c.2, ↓zb_s, ↓zo_12, ↓zo_9, ↓zLVa cr cV, zCv3 cV, e2, z1, if_false, ↓zLUi cV, q0, zE_lt, Int.lt_irrefl, zCv5 cV, zE_inj, q1, g2]
            · obtain ⟨f, f1, f2⟩ := zp203_1 hM' wA wK wC (v := a) (k := k) (by omega) (by omega) (by omega) (by omega)
              have : f = 1 := f1.u (zbo_1 g1)
              subst this
              simp (discharger := omega) only [zm207, ↓zM_ob, m1, zE_0, zE_1, zE_2, zE_3, zE_4, zE_5, zE_6, zE_7, zE_8, zE_9, zE_10, zE_11, zE_12, zE_13, zE_14, zE_neg, ↓zb_s, z1, if_false, ↓zMi21 hM', d2, if_true, zri_m8, zE_mul, zE_add, ↓zMi20 hM', q0, f2]
          · obtain ⟨u, u1, u2, u3⟩ := zan_s (t := s 21 a) (i := k) (by omega) (by omega) (by omega) (by omega)
            have hW' : zWf (zup s 21 a u) := by
              refine ⟨wA, wK, wC, ⟨wD.1, wD.2.1, fun w w0 w1 => ?_⟩, wP, wR, wZ, wT, wG, wE, wM, wX⟩
              obtain ⟨q1, q2, q3, q4, q5⟩ := wD.2.2 w w0 w1
              refine ⟨?_, q2, q3, q4, q5⟩
              by_cases e : w = a
              · subst e; rw [zup_s]; omega
              · rw [zup_a e]; exact q1
            refine zokV (h1 := zsi h 9 a.toNat 3 (zE u)) (s' := zup s 21 a u) (by omega) hW' ?_ (zw_9_3 (x := u) hC c.1.1 (by omega)) (zKp_i (fun z => z (by unfold zpc1; decide))) (by show zce h ≤ _; omega) (by show zso h ≤ _; omega) (fun h' hM' => ?_)
            · simp (discharger := omega) only [zm98, zE_0, zE_1, zE_2, zE_3, zE_4, zE_5, zE_6, zE_7, zE_8, zE_9, zE_10, zE_11, zE_12, zE_13, zE_14, zE_neg, zc131, if_pos c.1, if_pos c.2, ↓zb_s, ↓zo_12, ↓zo_9, ↓zLVa cr cV, zCv3 cV, e2, z1, if_false, ↓zLUi cV, q0, zE_lt, Int.lt_irrefl, zCv5 cV, zE_inj, q1, g2, if_true, u1, ↓zlet_s]
            · have hM1 := hM'.ws 0 (by decide) 0
              obtain ⟨f, f1, f2⟩ := zp203_1 hM' wA wK wC (v := a) (k := k) (by omega) (by omega) (by omega) (by omega)
              have : f = 0 := f1.u (zbo_0 g1)
              subst this
              refine ⟨zup (zup s 0 0 0) 21 a u, zsc_c zsc_up, (zup_j (by decide)).trans zup_s, _, ?_, hM1.wa (21, 121, 4) (by decide) a u (by omega), (zKp_i (fun z => z (Or.inl rfl))).tr (zKp_i (fun z => z (Or.inr (by decide)))), rfl, rfl⟩
              show zm207 (some (13, 0)) (zE a) (zE k) h' = _
              have e5 : (zup s 0 0 0) 21 a = s 21 a := rfl
              simp (discharger := omega) only [zm207, zm207_43, zm207_50, ↓zM_ob, m1, zE_0, zE_1, zE_2, zE_3, zE_4, zE_5, zE_6, zE_7, zE_8, zE_9, zE_10, zE_11, zE_12, zE_13, zE_14, zE_neg, ↓zb_s, z1, if_false, ↓zMi21 hM', d2, if_true, zri_m8, zE_mul, zE_add, ↓zMi20 hM', q0, f2, ↓zMi23 hM', zE_inj, q1, ↓zlet_s, ↓zMi21 hM1, e5, ↓zMa21 hM1, u1]
      · have q00 : 0 < s 20 (8 * a + k) := by omega
        refine hx ?_ fun h' hM' => ?_
        · simp (discharger := omega) only [zm98, zE_0, zE_1, zE_2, zE_3, zE_4, zE_5, zE_6, zE_7, zE_8, zE_9, zE_10, zE_11, zE_12, zE_13, zE_14, zE_neg, zc131, if_pos c.1, if_pos c.2, ↓zb_s, ↓zo_12, ↓zo_9, ↓zLVa cr cV, zCv3 cV, e2, z1, if_false, ↓zLUi cV, zE_lt, q00, if_true]
        · simp (discharger := omega) only [zm207, ↓zM_ob, m1, zE_0, zE_1, zE_2, zE_3, zE_4, zE_5, zE_6, zE_7, zE_8, zE_9, zE_10, zE_11, zE_12, zE_13, zE_14, zE_neg, ↓zb_s, z1, if_false, ↓zMi21 hM', d2, if_true, zri_m8, zE_mul, zE_add, ↓zMi20 hM', zE_inj, q0]
    · refine hx ?_ fun h' hM' => ?_
      · simp (discharger := omega) only [zm98, zE_0, zE_1, zE_2, zE_3, zE_4, zE_5, zE_6, zE_7, zE_8, zE_9, zE_10, zE_11, zE_12, zE_13, zE_14, zE_neg, zc131, if_pos c.1, if_pos c.2, ↓zb_s, ↓zo_12, ↓zo_9, ↓zLVa cr cV, zCv3 cV, e2, if_true]
      · simp (discharger := omega) only [zm207, ↓zM_ob, m1, zE_0, zE_1, zE_2, zE_3, zE_4, zE_5, zE_6, zE_7, zE_8, zE_9, zE_10, zE_11, zE_12, zE_13, zE_14, zE_neg, ↓zb_s, z1, z3, if_false, ↓zMi21 hM', d2]
  · refine zexV (t := 1) hC hW0 (by omega) (by omega) ?_ (fun h' hM' => ?_)
    · show zm98 (some (12, 0)) (zE a) (zE k) h = some (.inr 0, zro h 1 6)
      by_cases c1 : 0 ≤ a ∧ a ≤ 3
      · have c2 : ¬ (0 ≤ k ∧ k ≤ 7) := fun z => c ⟨c1, z⟩
        simp (discharger := omega) only [zm98, zE_0, zE_1, zE_2, zE_3, zE_4, zE_5, zE_6, zE_7, zE_8, zE_9, zE_10, zE_11, zE_12, zE_13, zE_14, zE_neg, zc131, if_pos c1, if_neg c2, ↓zb_s, ↓zb_x]
      · simp (discharger := omega) only [zm98, zE_0, zE_1, zE_2, zE_3, zE_4, zE_5, zE_6, zE_7, zE_8, zE_9, zE_10, zE_11, zE_12, zE_13, zE_14, zE_neg, zc131, if_neg c1, ↓zb_x]
    · show zm207 (some (13, 0)) (zE a) (zE k) h' = _
      obtain ⟨p, p1, p2⟩ := zp202 (h := h') a1 a2 k1 k2
      rcases p1 with ⟨rfl, p1⟩ | ⟨rfl, p1⟩
      · exact absurd p1 c
      · simp (discharger := omega) only [zm207, ↓zM_ob, p2, zE_0, zE_1, zE_2, zE_3, zE_4, zE_5, zE_6, zE_7, zE_8, zE_9, zE_10, zE_11, zE_12, zE_13, zE_14, zE_neg, ↓zb_s, if_true, ↓zlet_s]
