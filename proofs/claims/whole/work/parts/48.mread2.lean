set_option maxRecDepth 16384
/-! The model's methods that only read: what may go. -/
def zfdP (s : zS) (a k : Int) : Prop := ¬ (s 20 (8 * s 3 a + k) = 0 ∨ zbt (s 8 a) k)
def zfd (s : zS) (a : Int) : Prop := zbt (s 21 (s 3 a)) (s 9 a) ∧ (s 23 (s 3 a) = -1 ∨ zbt (s 8 a) (s 23 (s 3 a))) ∧ ¬ zxs 0 8 (zfdP s a)
theorem zp150_43 {h : zH} {s : zS} (hM : zMd h s) (hA : zWa s) (hD : zWd s) {a b0 : Int} {Q : Prop} (a1 : 0 ≤ a) (a2 : a < s 2 0) (hb0 : zbo b0 Q) :
    ∃ b', zbo b' (Q ∧ ¬ zxs 0 8 (zfdP s a)) ∧ zm150_43 zN0 (some (13, 0)) (zE a) (zE (s 3 a)) (zE b0) (zE 0) h = some (.inl (zE b'), h) := by
  have hn := hA.1
  obtain ⟨hv, -, -, -, -, q6, -⟩ := hA.2 a a1 a2
  refine zloop0 (W := fun n i b => zm150_43 n (some (13, 0)) (zE a) (zE (s 3 a)) (zE b) (zE i) h) (N := 8) (fun i b => zbo b (Q ∧ ¬ zxs 0 i (zfdP s a))) (fun r => ∃ b', zbo b' (Q ∧ ¬ zxs 0 8 (zfdP s a)) ∧ r = some (.inl (zE b'), h)) b0 (hb0.cg ⟨fun z => ⟨z, zxs_n⟩, And.left⟩) (by decide) (by decide) ?_ ?_
  · intro n b hb
    refine ⟨b, hb, ?_⟩
    simp only [zm150_43, zE_8, Int32.le_refl, if_true]
    exact zif_s hb.e
  · intro n i b h1 h2 hb
    refine Or.inr ?_
    obtain ⟨u1, u2⟩ := hD.2.1 (8 * s 3 a + i) (by omega) (by omega)
    have ht := hD.1
    obtain ⟨x, x1, x2⟩ := zbt_m (x := s 8 a) (k := i) (by omega) (by omega) (by omega) (by omega)
    have xr := x1.r
    have xz := x1.z
    have hbr := hb.r
    have hz := hb.z
    have h3 : ¬ 8 ≤ i := by omega
    simp (discharger := omega) only [zm150_43, zm150_70, ↓zlet_s, ↓zM_ob, ↓zri_m8, zE_add, ↓zMi20 hM, ↓zMi8 hM, zE_inj, zE_le, zE_0, zE_1, zE_2, zE_3, zE_4, zE_5, zE_6, zE_7, zE_8, zE_9, zE_10, zE_11, zE_12, zE_13, zE_14, zE_neg, h3, if_false, zxs_s, x2]
    clear hb hM hA hD x1 x2
    have x01 : x = 1 ↔ zbt (s 8 a) i := by rw [← Classical.not_not (a := zbt (s 8 a) i), ← xz]; omega
    repeat' split
    all_goals refine ⟨_, ?_, rfl⟩
    all_goals first
      | (refine zbo_1 ?_; simp_all [zfdP]; done)
      | (refine zbo_0 ?_; simp_all [zfdP]; done)
theorem zp150 {h : zH} {s : zS} (hM : zMd h s) (hA : zWa s) (hD : zWd s) {a : Int} (a1 : 0 ≤ a) (a2 : a < s 2 0) :
    ∃ b, zbo b (zfd s a) ∧ zm150 (some (13, 0)) (zE a) h = some (.inl (zE b), h) := by
  have hn := hA.1
  obtain ⟨hv, -, -, -, -, q6, q7, -⟩ := hA.2 a a1 a2
  obtain ⟨u1, -, u3, -⟩ := hD.2.2 (s 3 a) (by omega) (by omega)
  obtain ⟨x, x1, x2⟩ := zbt_m (x := s 21 (s 3 a)) (k := s 9 a) (by omega) (by omega) (by omega) (by omega)
  have xr := x1.r
  have x01 : x = 1 ↔ zbt (s 21 (s 3 a)) (s 9 a) := by rw [← Classical.not_not (a := zbt (s 21 (s 3 a)) (s 9 a)), ← x1.z]; omega
  by_cases c1 : x = 1
  · have d1 := x01.mp c1
    subst c1
    by_cases c2 : s 23 (s 3 a) = -1
    · obtain ⟨b, e1, e2⟩ := zp150_43 (Q := True) hM hA hD a1 a2 (zbo_1 trivial)
      refine ⟨b, e1.cg ⟨fun z => ⟨d1, Or.inl c2, z.2⟩, fun z => ⟨trivial, z.2.2⟩⟩, ?_⟩
      simp (discharger := omega) only [zm150, zm150_40, ↓zlet_s, ↓zM_ob, ↓zMi3 hM, ↓zMi21 hM, ↓zMi9 hM, ↓zMi23 hM, zE_0, zE_1, zE_2, zE_3, zE_4, zE_5, zE_6, zE_7, zE_8, zE_9, zE_10, zE_11, zE_12, zE_13, zE_14, zE_neg, x2, c2, if_true]
      exact e2
    · obtain ⟨y, y1, y2⟩ := zbt_m (x := s 8 a) (k := s 23 (s 3 a)) (by omega) (by omega) (by omega) (by omega)
      have yr := y1.r
      have y01 : y = 1 ↔ zbt (s 8 a) (s 23 (s 3 a)) := by rw [← Classical.not_not (a := zbt (s 8 a) (s 23 (s 3 a))), ← y1.z]; omega
      obtain ⟨b, e1, e2⟩ := zp150_43 hM hA hD a1 a2 y1
      refine ⟨b, e1.cg ⟨fun z => ⟨d1, Or.inr z.1, z.2⟩, fun z => ⟨z.2.1.elim (fun q => absurd q c2) id, z.2.2⟩⟩, ?_⟩
      simp (discharger := omega) only [zm150, zm150_40, ↓zlet_s, ↓zM_ob, ↓zMi3 hM, ↓zMi21 hM, ↓zMi9 hM, ↓zMi23 hM, ↓zMi8 hM, zE_0, zE_1, zE_2, zE_3, zE_4, zE_5, zE_6, zE_7, zE_8, zE_9, zE_10, zE_11, zE_12, zE_13, zE_14, zE_neg, x2, y2, zE_inj, c2, if_true, if_false]
      by_cases c3 : y = 1
      · subst c3
        simp only [if_true]
        exact e2
      · have c4 : y = 0 := by omega
        subst c4
        simp only [c3, if_false]
        exact e2
  · obtain ⟨b, e1, e2⟩ := zp150_43 (Q := False) hM hA hD a1 a2 (zbo_0 id)
    refine ⟨b, e1.cg ⟨fun z => z.1.elim, fun z => (c1 (x01.mpr z.1)).elim⟩, ?_⟩
    simp (discharger := omega) only [zm150, zm150_40, ↓zlet_s, ↓zM_ob, ↓zMi3 hM, ↓zMi21 hM, ↓zMi9 hM, ↓zMi23 hM, ↓zMi8 hM, zE_0, zE_1, zE_2, zE_3, zE_4, zE_5, zE_6, zE_7, zE_8, zE_9, zE_10, zE_11, zE_12, zE_13, zE_14, zE_neg, x2, zE_inj, c1, if_false]
    exact e2
/-- one that lives and with which it may not -/
def zbad (s : zS) (a b : Int) : Prop := b ≠ a ∧ zlv s b (-1) ∧ ¬ zrs s a b 0
def zoth (s : zS) (a b : Int) : Prop := b ≠ a ∧ zlv s b (-1) ∧ s 3 b = s 7 a
theorem zrs_u {s : zS} {a b v w : Int} (h : zrs s a b v) (h' : zrs s a b w) : v = w := by
  unfold zrs at h h'
  rcases h with ⟨e, h⟩ | ⟨e, h⟩ <;> rcases h' with ⟨e', h'⟩ | ⟨e', h'⟩
  · rcases h with ⟨p, q⟩ | ⟨p, p2, q⟩ | ⟨p, p2, q⟩ <;> rcases h' with ⟨p', q'⟩ | ⟨p', p2', q'⟩ | ⟨p', p2', q'⟩ <;> first
      | omega
      | exact absurd p' p
      | exact absurd p p'
      | exact absurd p2' p2
      | exact absurd p2 p2'
  · exact absurd e e'
  · exact absurd e' e
  · rcases h with ⟨p, q⟩ | ⟨p, p2, q⟩ | ⟨p, p2, q⟩ <;> rcases h' with ⟨p', q'⟩ | ⟨p', p2', q'⟩ | ⟨p', p2', q'⟩ <;> first
      | omega
      | exact absurd p' p
      | exact absurd p p'
      | exact absurd p2' p2
      | exact absurd p2 p2'
def zmyV (s : zS) (a v : Int) : Prop :=
  (zlv s a (-1) ∧ v = 0) ∨ (¬ zlv s a (-1) ∧ zxs 0 (s 2 0) (zbad s a) ∧ v = 6) ∨
  (¬ zlv s a (-1) ∧ ¬ zxs 0 (s 2 0) (zbad s a) ∧ ((s 6 a = 0 ∨ zxs 0 (s 2 0) (zoth s a)) ∧ zfd s a) ∧ v = 0) ∨
  (¬ zlv s a (-1) ∧ ¬ zxs 0 (s 2 0) (zbad s a) ∧ ¬ ((s 6 a = 0 ∨ zxs 0 (s 2 0) (zoth s a)) ∧ zfd s a) ∧ v = 7)
theorem zp151_54 {h : zH} {s : zS} (hM : zMd h s) (hA : zWa s) (hD : zWd s) {a b0 : Int} {Q : Prop} (a1 : 0 ≤ a) (a2 : a < s 2 0) (hb0 : zbo b0 Q) :
    ∃ v, ((Q ∧ zfd s a) ∧ v = 0 ∨ ¬ (Q ∧ zfd s a) ∧ v = 7) ∧ zm151_54 (some (13, 0)) (zE a) (zE b0) h = some (.inl (zE v), h) := by
  have z1 : ¬ zE 1 = zE 0 := by decide
  rcases hb0 with ⟨rfl, hQ⟩ | ⟨rfl, hQ⟩
  · obtain ⟨b, e1, e2⟩ := zp150 hM hA hD a1 a2
    simp only [zm151_54, ↓zM_ob, zE_0, zE_1, zE_2, zE_3, zE_4, zE_5, zE_6, zE_7, zE_8, zE_9, zE_10, zE_11, zE_12, zE_13, zE_14, zE_neg, z1, if_false, e2, zb_s]
    rcases e1 with ⟨rfl, e1⟩ | ⟨rfl, e1⟩
    · exact ⟨0, Or.inl ⟨⟨hQ, e1⟩, rfl⟩, by simp only [z1, if_false]⟩
    · exact ⟨7, Or.inr ⟨fun z => e1 z.2, rfl⟩, by simp only [if_true]⟩
  · exact ⟨7, Or.inr ⟨fun z => hQ z.1, rfl⟩, by rw [zm151_54, zE_0, if_pos rfl]; rfl⟩
theorem zp151_18 {h : zH} {s : zS} (hM : zMd h s) (hA : zWa s) (hK : zWk s) (hC : zWc s) {k : zq → Int32 → Int32 → zH → zRs Int32} {a b0 : Int} {Q : Prop} (a1 : 0 ≤ a) (a2 : a < s 2 0) (hb0 : zbo b0 Q) :
    (zxs 0 (s 2 0) (zbad s a) ∧ zm151_18 k zN0 (some (13, 0)) (zE a) (zE b0) (zE 0) h = some (.inl (zE 6), h)) ∨
    (¬ zxs 0 (s 2 0) (zbad s a) ∧ ∃ b', zbo b' (Q ∨ zxs 0 (s 2 0) (zoth s a)) ∧ zm151_18 k zN0 (some (13, 0)) (zE a) (zE b0) (zE 0) h = k (some (13, 0)) (zE a) (zE b') h) := by
  have hn := hA.1
  have z1 : ¬ zE 1 = zE 0 := by decide
  have hq7 := (hA.2 a a1 a2).2.2.2.2.1
  refine zloop0 (W := fun n i b => zm151_18 k n (some (13, 0)) (zE a) (zE b) (zE i) h) (N := s 2 0) (fun i b => ¬ zxs 0 i (zbad s a) ∧ zbo b (Q ∨ zxs 0 i (zoth s a))) (fun r => (zxs 0 (s 2 0) (zbad s a) ∧ r = some (.inl (zE 6), h)) ∨ (¬ zxs 0 (s 2 0) (zbad s a) ∧ ∃ b', zbo b' (Q ∨ zxs 0 (s 2 0) (zoth s a)) ∧ r = k (some (13, 0)) (zE a) (zE b') h)) b0 ⟨zxs_n, hb0.cg ⟨Or.inl, fun z => z.elim id (fun z => absurd z zxs_n)⟩⟩ (by omega) (by omega) ?_ ?_
  · intro n b hb
    refine Or.inr ⟨hb.1, b, hb.2, ?_⟩
    simp (discharger := omega) only [zm151_18, ↓zM_ob, zMs2 hM, Int32.le_refl, if_true]
  · intro n i b h1 h2 hb
    obtain ⟨hb1, hb2⟩ := hb
    have h3 : ¬ s 2 0 ≤ i := by omega
    have hA3 := (hA.2 i (by omega) (by omega)).1
    have stay : ∀ b', zbo b' ((Q ∨ zxs 0 i (zoth s a)) ∨ zoth s a i) → ¬ zbad s a i → (zxs 0 (s 2 0) (zbad s a) ∧ zm151_18 k n (some (13, 0)) (zE a) (zE b') (zE (i + 1)) h = some (.inl (zE 6), h)) ∨ (¬ zxs 0 (s 2 0) (zbad s a) ∧ ∃ b'', zbo b'' (Q ∨ zxs 0 (s 2 0) (zoth s a)) ∧ zm151_18 k n (some (13, 0)) (zE a) (zE b') (zE (i + 1)) h = k (some (13, 0)) (zE a) (zE b'') h) ∨ ∃ x', (¬ zxs 0 (i + 1) (zbad s a) ∧ zbo x' (Q ∨ zxs 0 (i + 1) (zoth s a))) ∧ zm151_18 k n (some (13, 0)) (zE a) (zE b') (zE (i + 1)) h = zm151_18 k n (some (13, 0)) (zE a) (zE x') (zE (i + 1)) h := by
      intro b' hb' hnb
      refine Or.inr (Or.inr ⟨b', ⟨?_, ?_⟩, rfl⟩)
      · rw [zxs_s h1]
        exact fun z => z.elim hb1 hnb
      · rw [zxs_s h1]
        exact hb'.cg or_assoc
    have fin : ∀ r, (∃ b', zbo b' ((Q ∨ zxs 0 i (zoth s a)) ∨ zoth s a i) ∧ ¬ zbad s a i ∧ r = zm151_18 k n (some (13, 0)) (zE a) (zE b') (zE (i + 1)) h) → ((zxs 0 (s 2 0) (zbad s a) ∧ r = some (.inl (zE 6), h)) ∨ (¬ zxs 0 (s 2 0) (zbad s a) ∧ ∃ b', zbo b' (Q ∨ zxs 0 (s 2 0) (zoth s a)) ∧ r = k (some (13, 0)) (zE a) (zE b') h)) ∨ ∃ x', (¬ zxs 0 (i + 1) (zbad s a) ∧ zbo x' (Q ∨ zxs 0 (i + 1) (zoth s a))) ∧ r = zm151_18 k n (some (13, 0)) (zE a) (zE x') (zE (i + 1)) h := by
      rintro r ⟨b', hb', hnb, rfl⟩
      exact (stay b' hb' hnb).elim (fun z => Or.inl (Or.inl z)) (fun z => z.elim (fun z => Or.inl (Or.inr z)) Or.inr)
    show ((zxs 0 (s 2 0) (zbad s a) ∧ zm151_18 k (n + 1) (some (13, 0)) (zE a) (zE b) (zE i) h = some (.inl (zE 6), h)) ∨ (¬ zxs 0 (s 2 0) (zbad s a) ∧ ∃ b', zbo b' (Q ∨ zxs 0 (s 2 0) (zoth s a)) ∧ zm151_18 k (n + 1) (some (13, 0)) (zE a) (zE b) (zE i) h = k (some (13, 0)) (zE a) (zE b') h)) ∨ ∃ x', (¬ zxs 0 (i + 1) (zbad s a) ∧ zbo x' (Q ∨ zxs 0 (i + 1) (zoth s a))) ∧ zm151_18 k (n + 1) (some (13, 0)) (zE a) (zE b) (zE i) h = zm151_18 k n (some (13, 0)) (zE a) (zE x') (zE (i + 1)) h
    by_cases e1 : i = a
    · refine fin _ ⟨b, hb2.cg ⟨Or.inl, fun z => z.elim id (fun z => absurd e1 z.1)⟩, fun z => z.1 e1, ?_⟩
      simp (discharger := omega) only [zm151_18, zm151_52, ↓zM_ob, ↓zlet_s, zMs2 hM, zE_le, zE_inj, zE_0, zE_1, zE_2, zE_3, zE_4, zE_5, zE_6, zE_7, zE_8, zE_9, zE_10, zE_11, zE_12, zE_13, zE_14, zE_neg, zE_add, h3, if_false, if_pos e1]
    · obtain ⟨l, l1, l2⟩ := zp148 hM hA hK hC (a := i) (w := -1) (by omega) (by omega) (by omega)
      have l2' : zm148 (some (13, 0)) (zE i) (-1) h = some (.inl (zE l), h) := l2
      rcases l1 with ⟨rfl, l1⟩ | ⟨rfl, l1⟩
      · obtain ⟨v, v1, v2⟩ := zp146 hM hA (a := a) (b := i) a1 a2 (by omega) (by omega)
        have vr := zrs_r v1
        by_cases e2 : v = 0
        · subst e2
          have hnb : ¬ zbad s a i := fun z => z.2.2 v1
          have hbr := hb2.r
          have hbz := hb2.z
          by_cases e3 : b = 0
          · by_cases e4 : s 3 i = s 7 a
            · refine fin _ ⟨1, zbo_1 (Or.inr ⟨e1, l1, e4⟩), hnb, ?_⟩
              subst e3
              simp (discharger := omega) only [zm151_18, zm151_52, zm151_51, ↓zM_ob, ↓zlet_s, zMs2 hM, ↓zMi3 hM, ↓zMi7 hM, zE_le, zE_inj, l2, zb_s, v2, zE_0, zE_1, zE_2, zE_3, zE_4, zE_5, zE_6, zE_7, zE_8, zE_9, zE_10, zE_11, zE_12, zE_13, zE_14, zE_neg, zE_add, h3, if_false, if_true, e1, e4, z1]
            · refine fin _ ⟨0, zbo_0 (fun z => z.elim (hbz.mp e3) (fun z => e4 z.2.2)), hnb, ?_⟩
              subst e3
              simp (discharger := omega) only [zm151_18, zm151_52, zm151_51, ↓zM_ob, ↓zlet_s, zMs2 hM, ↓zMi3 hM, ↓zMi7 hM, zE_le, zE_inj, l2, zb_s, v2, zE_0, zE_1, zE_2, zE_3, zE_4, zE_5, zE_6, zE_7, zE_8, zE_9, zE_10, zE_11, zE_12, zE_13, zE_14, zE_neg, zE_add, h3, if_false, if_true, e1, e4, z1]
          · refine fin _ ⟨1, zbo_1 (Or.inl (Classical.not_not.mp fun z => e3 (hbz.mpr z))), hnb, ?_⟩
            simp (discharger := omega) only [zm151_18, zm151_52, zm151_51, ↓zM_ob, ↓zlet_s, zMs2 hM, zE_le, zE_inj, l2, zb_s, v2, zE_0, zE_1, zE_2, zE_3, zE_4, zE_5, zE_6, zE_7, zE_8, zE_9, zE_10, zE_11, zE_12, zE_13, zE_14, zE_neg, zE_add, h3, if_false, if_true, e1, e3, z1]
        · refine Or.inl (Or.inl ⟨⟨i, h1, h2, e1, l1, fun z => e2 (zrs_u v1 z)⟩, ?_⟩)
          simp (discharger := omega) only [zm151_18, ↓zM_ob, ↓zlet_s, zMs2 hM, zE_le, zE_inj, l2, zb_s, v2, zE_0, zE_1, zE_2, zE_3, zE_4, zE_5, zE_6, zE_7, zE_8, zE_9, zE_10, zE_11, zE_12, zE_13, zE_14, zE_neg, h3, if_false, e1, e2, z1]
      · refine fin _ ⟨b, hb2.cg ⟨Or.inl, fun z => z.elim id (fun z => absurd z.2.1 l1)⟩, fun z => l1 z.2.1, ?_⟩
        simp (discharger := omega) only [zm151_18, zm151_52, ↓zM_ob, ↓zlet_s, zMs2 hM, zE_le, zE_inj, l2, zb_s, zE_0, zE_1, zE_2, zE_3, zE_4, zE_5, zE_6, zE_7, zE_8, zE_9, zE_10, zE_11, zE_12, zE_13, zE_14, zE_neg, zE_add, h3, if_false, if_true, e1]
theorem zp151 {h : zH} {s : zS} (hM : zMd h s) (hA : zWa s) (hK : zWk s) (hC : zWc s) (hD : zWd s) {a : Int} (a1 : 0 ≤ a) (a2 : a < s 2 0) : ∃ v, zmyV s a v ∧ zm151 (some (13, 0)) (zE a) h = some (.inl (zE v), h) := by
  have hn := hA.1
  have z1 : ¬ zE 1 = zE 0 := by decide
  have h6 := (hA.2 a a1 a2).2.2.2.1
  obtain ⟨l, l1, l2⟩ := zp148 hM hA hK hC (a := a) (w := -1) (by omega) (by omega) (by omega)
  have l2' : zm148 (some (13, 0)) (zE a) (-1) h = some (.inl (zE l), h) := l2
  rcases l1 with ⟨rfl, l1⟩ | ⟨rfl, l1⟩
  · refine ⟨0, Or.inl ⟨l1, rfl⟩, ?_⟩
    simp only [zm151, ↓zM_ob, l2, zb_s, zE_0, zE_1, zE_2, zE_3, zE_4, zE_5, zE_6, zE_7, zE_8, zE_9, zE_10, zE_11, zE_12, zE_13, zE_14, zE_neg, z1, if_false]
  · obtain ⟨c, c1, c2⟩ : ∃ c, zbo c (s 6 a = 0) ∧ zm151 (some (13, 0)) (zE a) h = zm151_18 zm151_54 zN0 (some (13, 0)) (zE a) (zE c) (zE 0) h := by
      by_cases e : s 6 a = 0
      · refine ⟨1, zbo_1 e, ?_⟩
        simp (discharger := omega) only [zm151, zm151_15, ↓zM_ob, l2, zb_s, zE_0, zE_1, zE_2, zE_3, zE_4, zE_5, zE_6, zE_7, zE_8, zE_9, zE_10, zE_11, zE_12, zE_13, zE_14, zE_neg, if_true, ↓zMi6 hM, zE_inj, e]
      · refine ⟨0, zbo_0 e, ?_⟩
        simp (discharger := omega) only [zm151, zm151_15, ↓zM_ob, l2, zb_s, zE_0, zE_1, zE_2, zE_3, zE_4, zE_5, zE_6, zE_7, zE_8, zE_9, zE_10, zE_11, zE_12, zE_13, zE_14, zE_neg, if_true, ↓zMi6 hM, zE_inj, e, if_false]
    rw [c2]
    rcases zp151_18 hM hA hK hC (k := zm151_54) a1 a2 c1 with ⟨b1, b2⟩ | ⟨b1, b', b2, b3⟩
    · exact ⟨6, Or.inr (Or.inl ⟨l1, b1, rfl⟩), b2⟩
    · obtain ⟨v, v1, v2⟩ := zp151_54 hM hA hD a1 a2 b2
      rw [b3]
      refine ⟨v, ?_, v2⟩
      rcases v1 with ⟨v1, rfl⟩ | ⟨v1, rfl⟩
      · exact Or.inr (Or.inr (Or.inl ⟨l1, b1, v1, rfl⟩))
      · exact Or.inr (Or.inr (Or.inr ⟨l1, b1, v1, rfl⟩))
