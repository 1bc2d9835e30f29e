set_option maxRecDepth 16384
/-! The class's methods that only read: artefacts. -/
theorem zcnt_p {P : Int → Prop} (n : Nat) : 0 < zcnt P n ↔ zxs 0 n P := by
  have h1 := zcnt_r P n
  have h2 := zcnt_0 (P := P) n
  constructor
  · intro h
    exact Classical.not_not.mp fun z => by have := h2.mpr z; omega
  · intro h
    have : zcnt P n ≠ 0 := fun z => h2.mp z h
    omega
theorem zus_r (s : zS) (a : Int) : 0 ≤ zus s a ∧ zus s a ≤ 824 := by
  have h1 := zcnt_r (fun k => s 12 k = a) 12
  have h2 := zcnt_r (fun k => s 13 k = a) 12
  have h3 := zcnt_r (fun c => s 18 c = a) 800
  unfold zus
  omega
theorem zss_r (s : zS) (a r : Int) : 0 ≤ zss s a r ∧ zss s a r ≤ 800 := zcnt_r _ 800
theorem zus_p {s : zS} (hA : zWa s) (hK : zWk s) (hC : zWc s) {a : Int} (a1 : 0 ≤ a) (a2 : a < s 2 0) : 0 < zus s a ↔ zlv s a (-1) := by
  have h1 := zcnt_r (fun k => s 12 k = a) 12
  have h2 := zcnt_r (fun k => s 13 k = a) 12
  have h3 := zcnt_r (fun c => s 18 c = a) 800
  have p1 := zcnt_p (P := fun k => s 12 k = a) 12
  have p2 := zcnt_p (P := fun k => s 13 k = a) 12
  have p3 := zcnt_p (P := fun c => s 18 c = a) 800
  have hv := (hA.2 a a1 a2).1
  have e : 0 < zus s a ↔ (zxs 0 12 (fun k => s 12 k = a) ∨ zxs 0 12 (fun k => s 13 k = a) ∨ zxs 0 800 (fun c => s 18 c = a)) := by
    unfold zus
    have q1 : zxs 0 12 (fun k => s 12 k = a) ↔ 0 < zcnt (fun k => s 12 k = a) 12 := p1.symm
    have q2 : zxs 0 12 (fun k => s 13 k = a) ↔ 0 < zcnt (fun k => s 13 k = a) 12 := p2.symm
    have q3 : zxs 0 800 (fun c => s 18 c = a) ↔ 0 < zcnt (fun c => s 18 c = a) 800 := p3.symm
    rw [q1, q2, q3]
    omega
  rw [e]
  constructor
  · rintro (⟨k, k1, k2, k3⟩ | ⟨k, k1, k2, k3⟩ | ⟨c, c1, c2, c3⟩)
    · have k3 : s 12 k = a := k3
      have q := (hK k k1 k2).2.2.2.2.1 (by omega)
      rw [k3] at q
      exact Or.inl ⟨k % 3, by omega, by omega, Or.inl ⟨by rw [show 3 * s 3 a + k % 3 = k by omega]; exact k3, by omega⟩⟩
    · have k3 : s 13 k = a := k3
      have q := (hK k k1 k2).2.2.2.2.2 (by omega)
      rw [k3] at q
      exact Or.inl ⟨k % 3, by omega, by omega, Or.inr (by rw [show 3 * s 3 a + k % 3 = k by omega]; exact k3)⟩
    · have c3 : s 18 c = a := c3
      have q := (hC.2 c c1 c2).2.2 (by omega)
      rw [c3] at q
      exact Or.inr ⟨c % 200, by omega, by omega, by unfold zlvC; rw [show 200 * s 3 a + c % 200 = c by omega]; exact c3⟩
  · rintro (⟨r, r1, r2, ⟨r3, -⟩ | r3⟩ | ⟨c, c1, c2, c3⟩)
    · exact Or.inl ⟨_, by omega, by omega, r3⟩
    · exact Or.inr (Or.inl ⟨_, by omega, by omega, r3⟩)
    · exact Or.inr (Or.inr ⟨_, by omega, by omega, c3⟩)
/-- what is asked of a range -/
theorem zc131 {h : zH} {x lo hi : Int} (h1 : -2147483648 ≤ x) (h2 : x < 2147483648) (h3 : -2147483648 ≤ lo) (h4 : lo < 2147483648) (h5 : -2147483648 ≤ hi) (h6 : hi < 2147483648) : zm131 (zE x) (zE lo) (zE hi) h = if lo ≤ x ∧ x ≤ hi then some (.inl (), h) else some (.inr 0, zro h 1 6) := by
  simp (discharger := omega) only [zm131, zE_lt, zE_le]
  repeat' split
  all_goals first
    | rfl
    | omega
theorem zc130 {h : zH} {x n : Int} (h1 : -2147483648 ≤ x) (h2 : x < 2147483648) (h5 : -2147483648 ≤ n) (h6 : n < 2147483648) : zm130 (zE x) (zE n) h = if 0 ≤ x ∧ x < n then some (.inl (), h) else some (.inr 2, zro h 1 6) := by
  simp (discharger := omega) only [zm130, zE_0, zE_lt, zE_le]
  repeat' split
  all_goals first
    | rfl
    | omega
theorem zc1 {h : zH} {s : zS} (hC : zCA h s) (hA : zWa s) {a b : Int} (a1 : 0 ≤ a) (a2 : a < s 2 0) (b1 : 0 ≤ b) (b2 : b < s 2 0) : ∃ v, zrs s a b v ∧ zm1 (some (0, a.toNat)) (some (0, b.toNat)) h = some (.inl (zE v), h) := by
  obtain ⟨p1, p2, p3, p4, p5, p6, p7, -⟩ := hA.2 a a1 a2
  obtain ⟨q1, q2, q3, q4, q5, q6, q7, -⟩ := hA.2 b b1 b2
  have hx := zbt_c (x := s 8 a) (k := s 9 b) (by omega) (by omega) (by omega) (by omega)
  have hy := zbt_c (x := s 8 b) (k := s 9 a) (by omega) (by omega) (by omega) (by omega)
  simp (discharger := omega) only [zm1, zm1_42, ↓zo_0, zCa1 hC, zCa3 hC, zCa4 hC, zCa5 hC, zCa6 hC, zCa7 hC, zE_0, zE_1, zE_2, zE_3, zE_4, zE_5, zE_6, zE_7, zE_8, zE_9, zE_10, zE_11, zE_12, zE_13, zE_14, zE_neg, zE_inj, hx, hy]
  clear hC hA p1 p2 p3 p4 p5 p6 p7 q1 q2 q3 q4 q5 q6 q7 hx hy
  by_cases e0 : s 3 a = s 3 b
  · rw [if_pos e0]
    by_cases c1 : zbt (s 8 a) (s 9 b)
    · by_cases c2 : zbt (s 8 b) (s 9 a)
      · exact ⟨0, Or.inl ⟨e0, Or.inr (Or.inr ⟨c1, c2, rfl⟩)⟩, by rw [if_neg (not_not_intro c1), if_neg (not_not_intro c2)]⟩
      · exact ⟨2, Or.inl ⟨e0, Or.inr (Or.inl ⟨c1, c2, rfl⟩)⟩, by rw [if_neg (not_not_intro c1), if_pos c2]⟩
    · exact ⟨1, Or.inl ⟨e0, Or.inl ⟨c1, rfl⟩⟩, by rw [if_pos c1]⟩
  · rw [if_neg e0]
    repeat' split
    all_goals refine ⟨_, Or.inr ⟨e0, ?_⟩, rfl⟩
    all_goals first
      | (refine Or.inl ?_; simp_all [zlk]; done)
      | (refine Or.inr (Or.inl ?_); simp_all [zlk]; done)
      | (refine Or.inr (Or.inr ?_); simp_all [zlk]; done)
/-- whether it may live together with all that are live -/
def zfi2 (s : zS) (a w : Int) (b : Int) : Prop := zlv s b (-1) ∧ b ≠ a ∧ b ≠ w ∧ ¬ zrs s a b 0
theorem zc46 {h : zH} {s : zS} (hR : zCr h) (hC : zCA h s) (hA : zWa s) (hK : zWk s) (hS : zWc s) {a w : Int} (a1 : 0 ≤ a) (a2 : a < s 2 0) (w1 : -1 ≤ w) : ∃ v, zbo v (¬ zxs 0 (s 2 0) (zfi2 s a w)) ∧ zm46 (some (12, 0)) (some (0, a.toNat)) (zrf 0 w) h = some (.inl (zE v), h) := by
  have hn := hA.1
  rw [zm46, zE_0]
  refine zloop0 (W := fun n i (_ : Unit) => zm46_2 n (some (12, 0)) (some (0, a.toNat)) (zrf 0 w) (zE i) h) (N := s 2 0) (fun i _ => ¬ zxs 0 i (zfi2 s a w)) (fun r => ∃ v, zbo v (¬ zxs 0 (s 2 0) (zfi2 s a w)) ∧ r = some (.inl (zE v), h)) () zxs_n (by omega) (by omega) ?_ ?_
  · intro n _ hb
    refine ⟨1, zbo_1 hb, ?_⟩
    simp (discharger := omega) only [zm46_2, ↓zo_12, ↓zLAz hR hC, Int32.le_refl, if_true, zE_0, zE_1, zE_2, zE_3, zE_4, zE_5, zE_6, zE_7, zE_8, zE_9, zE_10, zE_11, zE_12, zE_13, zE_14, zE_neg]
  · intro n i _ h1 h2 hb
    have h3 : ¬ s 2 0 ≤ i := by omega
    have hu := zus_r s i
    have hp := zus_p hA hK hS h1 h2
    have hea : ((some (0, i.toNat) : zq) = some (0, a.toNat)) = (i = a) := by
      rw [← zrf_s (k := 0) h1, ← zrf_s (k := 0) a1, zrf_i (by omega) (by omega)]
    have hew : ((some (0, i.toNat) : zq) = zrf 0 w) = (i = w) := by
      rw [← zrf_s (k := 0) h1, zrf_i (by omega) (by omega)]
    obtain ⟨v, v1, v2⟩ := zc1 hC hA a1 a2 h1 h2
    have vr := zrs_r v1
    have go : ¬ zfi2 s a w i → zm46_2 (n + 1) (some (12, 0)) (some (0, a.toNat)) (zrf 0 w) (zE i) h = zm46_2 n (some (12, 0)) (some (0, a.toNat)) (zrf 0 w) (zE (i + 1)) h → (∃ v, zbo v (¬ zxs 0 (s 2 0) (zfi2 s a w)) ∧ zm46_2 (n + 1) (some (12, 0)) (some (0, a.toNat)) (zrf 0 w) (zE i) h = some (.inl (zE v), h)) ∨ ∃ x' : Unit, ¬ zxs 0 (i + 1) (zfi2 s a w) ∧ zm46_2 (n + 1) (some (12, 0)) (some (0, a.toNat)) (zrf 0 w) (zE i) h = zm46_2 n (some (12, 0)) (some (0, a.toNat)) (zrf 0 w) (zE (i + 1)) h := by
      intro q1 q2
      refine Or.inr ⟨(), ?_, q2⟩
      rw [zxs_s h1]
      exact fun z => z.elim hb q1
    by_cases e1 : zus s i ≤ 0
    · refine go (fun z => by have := hp.mpr z.1; omega) ?_
      simp (discharger := omega) only [zm46_2, zm46_28, ↓zo_12, ↓zo_0, ↓zlet_s, ↓zLAz hR hC, ↓zLAg hR hC, zCa10 hC, zE_le, zE_0, zE_1, zE_2, zE_3, zE_4, zE_5, zE_6, zE_7, zE_8, zE_9, zE_10, zE_11, zE_12, zE_13, zE_14, zE_neg, zE_add, h3, e1, if_true, if_false]
    · by_cases e2 : i = a
      · refine go (fun z => z.2.1 e2) ?_
        simp (discharger := omega) only [zm46_2, zm46_28, ↓zo_12, ↓zo_0, ↓zlet_s, ↓zLAz hR hC, ↓zLAg hR hC, zCa10 hC, zE_le, zE_0, zE_1, zE_2, zE_3, zE_4, zE_5, zE_6, zE_7, zE_8, zE_9, zE_10, zE_11, zE_12, zE_13, zE_14, zE_neg, zE_add, h3, e1, hea, if_pos e2, if_false]
      · by_cases e3 : i = w
        · refine go (fun z => z.2.2.1 e3) ?_
          simp (discharger := omega) only [zm46_2, zm46_28, ↓zo_12, ↓zo_0, ↓zlet_s, ↓zLAz hR hC, ↓zLAg hR hC, zCa10 hC, zE_le, zE_0, zE_1, zE_2, zE_3, zE_4, zE_5, zE_6, zE_7, zE_8, zE_9, zE_10, zE_11, zE_12, zE_13, zE_14, zE_neg, zE_add, h3, e1, hea, hew, e2, if_pos e3, if_false]
        · by_cases e4 : v = 0
          · subst e4
            refine go (fun z => z.2.2.2 v1) ?_
            simp (discharger := omega) only [zm46_2, zm46_28, ↓zo_12, ↓zo_0, ↓zlet_s, ↓zLAz hR hC, ↓zLAg hR hC, zCa10 hC, zE_le, zE_0, zE_1, zE_2, zE_3, zE_4, zE_5, zE_6, zE_7, zE_8, zE_9, zE_10, zE_11, zE_12, zE_13, zE_14, zE_neg, zE_add, h3, e1, hea, hew, e2, e3, v2, zb_s, if_true, if_false]
          · refine Or.inl ⟨0, zbo_0 (fun z => z ⟨i, h1, h2, hp.mp (by omega), e2, e3, fun q => e4 (zrs_u v1 q)⟩), ?_⟩
            simp (discharger := omega) only [zm46_2, zm46_28, ↓zo_12, ↓zo_0, ↓zlet_s, ↓zLAz hR hC, ↓zLAg hR hC, zCa10 hC, zE_le, zE_inj, zE_0, zE_1, zE_2, zE_3, zE_4, zE_5, zE_6, zE_7, zE_8, zE_9, zE_10, zE_11, zE_12, zE_13, zE_14, zE_neg, h3, e1, hea, hew, e2, e3, e4, v2, zb_s, if_true, if_false]
theorem zc47 {h : zH} {s : zS} (hR : zCr h) (hC : zCA h s) (hA : zWa s) (hK : zWk s) (hS : zWc s) {a : Int} (a1 : 0 ≤ a) (a2 : a < s 2 0) : ∃ v, zbo v (s 6 a = 0 ∨ zxs 0 (s 2 0) (fun b => zlv s b (-1) ∧ s 3 b = s 7 a)) ∧ zm47 (some (12, 0)) (some (0, a.toNat)) h = some (.inl (zE v), h) := by
  have hn := hA.1
  obtain ⟨-, -, -, q6, q7, -⟩ := hA.2 a a1 a2
  by_cases e0 : s 6 a = 0
  · refine ⟨1, zbo_1 (Or.inl e0), ?_⟩
    simp (discharger := omega) only [zm47, ↓zo_0, zCa4 hC, zE_0, zE_1, zE_2, zE_3, zE_4, zE_5, zE_6, zE_7, zE_8, zE_9, zE_10, zE_11, zE_12, zE_13, zE_14, zE_neg, zE_inj, e0, if_true]
  · have e9 : zm47 (some (12, 0)) (some (0, a.toNat)) h = zm47_7 zN0 (some (12, 0)) (some (0, a.toNat)) (zE 0) h := by
      simp (discharger := omega) only [zm47, ↓zo_0, zCa4 hC, zE_0, zE_1, zE_2, zE_3, zE_4, zE_5, zE_6, zE_7, zE_8, zE_9, zE_10, zE_11, zE_12, zE_13, zE_14, zE_neg, zE_inj, e0, if_false]
    rw [e9]
    refine zloop0 (W := fun n i (_ : Unit) => zm47_7 n (some (12, 0)) (some (0, a.toNat)) (zE i) h) (N := s 2 0) (fun i _ => ¬ zxs 0 i (fun b => zlv s b (-1) ∧ s 3 b = s 7 a)) (fun r => ∃ v, zbo v (s 6 a = 0 ∨ zxs 0 (s 2 0) (fun b => zlv s b (-1) ∧ s 3 b = s 7 a)) ∧ r = some (.inl (zE v), h)) () zxs_n (by omega) (by omega) ?_ ?_
    · intro n _ hb
      refine ⟨0, zbo_0 (fun z => z.elim e0 hb), ?_⟩
      simp (discharger := omega) only [zm47_7, ↓zo_12, ↓zLAz hR hC, Int32.le_refl, if_true, zE_0, zE_1, zE_2, zE_3, zE_4, zE_5, zE_6, zE_7, zE_8, zE_9, zE_10, zE_11, zE_12, zE_13, zE_14, zE_neg]
    · intro n i _ h1 h2 hb
      have h3 : ¬ s 2 0 ≤ i := by omega
      have hu := zus_r s i
      have hp := zus_p hA hK hS h1 h2
      have q3 := (hA.2 i h1 h2).1
      by_cases e1 : zus s i ≤ 0
      · refine Or.inr ⟨(), ?_, ?_⟩
        · rw [zxs_s h1]
          exact fun z => z.elim hb (fun z => by have := hp.mpr z.1; omega)
        · simp (discharger := omega) only [zm47_7, zm47_28, ↓zo_12, ↓zo_0, ↓zlet_s, ↓zLAz hR hC, ↓zLAg hR hC, zCa10 hC, zE_le, zE_0, zE_1, zE_2, zE_3, zE_4, zE_5, zE_6, zE_7, zE_8, zE_9, zE_10, zE_11, zE_12, zE_13, zE_14, zE_neg, zE_add, h3, e1, if_true, if_false]
      · by_cases e2 : s 3 i = s 7 a
        · refine Or.inl ⟨1, zbo_1 (Or.inr ⟨i, h1, h2, hp.mp (by omega), e2⟩), ?_⟩
          simp (discharger := omega) only [zm47_7, zm47_28, ↓zo_12, ↓zo_0, ↓zlet_s, ↓zLAz hR hC, ↓zLAg hR hC, zCa10 hC, zCa1 hC, zCa5 hC, zE_le, zE_inj, zE_0, zE_1, zE_2, zE_3, zE_4, zE_5, zE_6, zE_7, zE_8, zE_9, zE_10, zE_11, zE_12, zE_13, zE_14, zE_neg, h3, e1, e2, if_true, if_false]
        · refine Or.inr ⟨(), ?_, ?_⟩
          · rw [zxs_s h1]
            exact fun z => z.elim hb (fun z => e2 z.2)
          · simp (discharger := omega) only [zm47_7, zm47_28, ↓zo_12, ↓zo_0, ↓zlet_s, ↓zLAz hR hC, ↓zLAg hR hC, zCa10 hC, zCa1 hC, zCa5 hC, zE_le, zE_inj, zE_0, zE_1, zE_2, zE_3, zE_4, zE_5, zE_6, zE_7, zE_8, zE_9, zE_10, zE_11, zE_12, zE_13, zE_14, zE_neg, zE_add, h3, e1, e2, if_true, if_false]

