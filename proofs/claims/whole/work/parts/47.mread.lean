set_option maxRecDepth 16384
/-! The model's methods that only read: artefacts. -/
theorem zp139 {h : zH} {x lo hi : Int32} : ∃ b, zbo b (lo ≤ x ∧ x ≤ hi) ∧ zm139 x lo hi h = some (.inl (zE b), h) := by
  unfold zm139
  split
  · rename_i c
    exact ⟨0, zbo_0 (fun z => absurd c (Int32.not_lt.mpr z.1)), rfl⟩
  · rename_i c
    split
    · rename_i c2
      exact ⟨0, zbo_0 (fun z => absurd c2 (Int32.not_lt.mpr z.2)), rfl⟩
    · rename_i c2
      exact ⟨1, zbo_1 ⟨Int32.not_lt.mp c, Int32.not_lt.mp c2⟩, rfl⟩
/-- .. of integers -/
theorem zp139i {h : zH} {x lo hi : Int} (h1 : -2147483648 ≤ x) (h2 : x < 2147483648) (h3 : -2147483648 ≤ lo) (h4 : lo < 2147483648) (h5 : -2147483648 ≤ hi) (h6 : hi < 2147483648) : ∃ b, zbo b (lo ≤ x ∧ x ≤ hi) ∧ zm139 (zE x) (zE lo) (zE hi) h = some (.inl (zE b), h) := by
  obtain ⟨b, e1, e2⟩ := zp139 (h := h) (x := zE x) (lo := zE lo) (hi := zE hi)
  rw [zE_le h3 h4 h1 h2, zE_le h1 h2 h5 h6] at e1
  exact ⟨b, e1, e2⟩
theorem zp140 {h : zH} {x : Int} (h1 : -2147483648 ≤ x) (h2 : x < 2147483648) : ∃ b, zbo b (0 ≤ x ∧ x ≤ 3) ∧ zm140 (zE x) h = some (.inl (zE b), h) := by
  obtain ⟨b, e1, e2⟩ := zp139i (h := h) (lo := 0) (hi := 3) h1 h2 (by omega) (by omega) (by omega) (by omega)
  refine ⟨b, e1, ?_⟩
  rw [zm140, zE_0, zE_3, e2, zb_s]
  exact zif_s e1.e
theorem zp141 {h : zH} {x : Int} (h1 : -2147483648 ≤ x) (h2 : x < 2147483648) : ∃ b, zbo b (0 ≤ x ∧ x ≤ 2) ∧ zm141 (zE x) h = some (.inl (zE b), h) := by
  obtain ⟨b, e1, e2⟩ := zp139i (h := h) (lo := 0) (hi := 2) h1 h2 (by omega) (by omega) (by omega) (by omega)
  refine ⟨b, e1, ?_⟩
  rw [zm141, zE_0, zE_2, e2, zb_s]
  exact zif_s e1.e
theorem zp142 {h : zH} {s : zS} (hM : zMd h s) (hA : zWa s) {x : Int} (h1 : -2147483648 ≤ x) (h2 : x < 2147483648) : ∃ b, zbo b (0 ≤ x ∧ x < s 2 0) ∧ zm142 (some (13, 0)) (zE x) h = some (.inl (zE b), h) := by
  have := hA.1
  obtain ⟨b, e1, e2⟩ := zp139i (h := h) (lo := 0) (hi := s 2 0 - 1) h1 h2 (by omega) (by omega) (by omega) (by omega)
  refine ⟨b, e1.cg (by omega), ?_⟩
  rw [zm142, zM_ob, zMs2 hM, zE_0, zE_1, zE_sub, e2, zb_s]
  exact zif_s e1.e
theorem zp143 {h : zH} {s : zS} (hM : zMd h s) (hA : zWr s) {x : Int} (h1 : -2147483648 ≤ x) (h2 : x < 2147483648) : ∃ b, zbo b (0 ≤ x ∧ x < s 30 0) ∧ zm143 (some (13, 0)) (zE x) h = some (.inl (zE b), h) := by
  have := hA.1
  obtain ⟨b, e1, e2⟩ := zp139i (h := h) (lo := 0) (hi := s 30 0 - 1) h1 h2 (by omega) (by omega) (by omega) (by omega)
  refine ⟨b, e1.cg (by omega), ?_⟩
  rw [zm143, zM_ob, zMs30 hM, zE_0, zE_1, zE_sub, e2, zb_s]
  exact zif_s e1.e
/-- an element of a set of eight -/
abbrev zbt (x k : Int) : Prop := x.toNat.testBit k.toNat = true
theorem zbt_d1 : ∀ x, x < 256 → ∀ k, k < 8 → (((Int32.ofInt (x : Nat)) >>> ((Int32.ofInt (k : Nat)) &&& 31)) &&& 1) = (if Nat.testBit x k = true then 1 else 0) := by decide +kernel
theorem zbt_d2 : ∀ x, x < 256 → ∀ k, k < 8 → (((Int32.ofInt (x : Nat)) &&& ((1 : Int32) <<< ((Int32.ofInt (k : Nat)) &&& 31))) = 0 ↔ ¬ Nat.testBit x k = true) := by decide +kernel
theorem zbt_m {x k : Int} (h1 : 0 ≤ x) (h2 : x ≤ 255) (h3 : 0 ≤ k) (h4 : k ≤ 7) : ∃ b, zbo b (zbt x k) ∧ ((zE x >>> (zE k &&& 31)) &&& zE 1) = zE b := by
  have e := zbt_d1 x.toNat (by omega) k.toNat (by omega)
  rw [Int.toNat_of_nonneg h1, Int.toNat_of_nonneg h3] at e
  by_cases hb : Nat.testBit x.toNat k.toNat = true
  · rw [if_pos hb] at e
    exact ⟨1, zbo_1 hb, e⟩
  · rw [if_neg hb] at e
    exact ⟨0, zbo_0 hb, e⟩
theorem zbt_c {x k : Int} (h1 : 0 ≤ x) (h2 : x ≤ 255) (h3 : 0 ≤ k) (h4 : k ≤ 7) : ((zE x &&& (zE 1 <<< (zE k &&& 31))) = zE 0) = ¬ zbt x k := by
  have e := zbt_d2 x.toNat (by omega) k.toNat (by omega)
  rw [Int.toNat_of_nonneg h1, Int.toNat_of_nonneg h3] at e
  exact propext e
def zlk (x y : Int) : Prop := ¬ (zE x &&& (zE y ^^^ zE (-1))) = zE 0
/-- the reason why both may not live together -/
def zrs (s : zS) (a b v : Int) : Prop :=
  (s 3 a = s 3 b ∧ ((¬ zbt (s 8 a) (s 9 b) ∧ v = 1) ∨ (zbt (s 8 a) (s 9 b) ∧ ¬ zbt (s 8 b) (s 9 a) ∧ v = 2) ∨ (zbt (s 8 a) (s 9 b) ∧ zbt (s 8 b) (s 9 a) ∧ v = 0))) ∨
  (s 3 a ≠ s 3 b ∧ (((s 7 a = s 3 b ∧ zlk (s 6 a) (s 5 b)) ∧ v = 3) ∨ (¬ (s 7 a = s 3 b ∧ zlk (s 6 a) (s 5 b)) ∧ (s 7 b = s 3 a ∧ zlk (s 6 b) (s 5 a)) ∧ v = 4) ∨ (¬ (s 7 a = s 3 b ∧ zlk (s 6 a) (s 5 b)) ∧ ¬ (s 7 b = s 3 a ∧ zlk (s 6 b) (s 5 a)) ∧ v = 0)))
theorem zrs_r {s : zS} {a b v : Int} (h : zrs s a b v) : 0 ≤ v ∧ v ≤ 4 := by
  rcases h with ⟨-, ⟨-, e⟩ | ⟨-, -, e⟩ | ⟨-, -, e⟩⟩ | ⟨-, ⟨-, e⟩ | ⟨-, -, e⟩ | ⟨-, -, e⟩⟩ <;> omega
theorem zp146 {h : zH} {s : zS} (hM : zMd h s) (hA : zWa s) {a b : Int} (a1 : 0 ≤ a) (a2 : a < s 2 0) (b1 : 0 ≤ b) (b2 : b < s 2 0) : ∃ v, zrs s a b v ∧ zm146 (some (13, 0)) (zE a) (zE b) h = some (.inl (zE v), h) := by
  have hn := hA.1
  obtain ⟨p1, p2, p3, p4, p5, p6, p7, -⟩ := hA.2 a a1 a2
  obtain ⟨q1, q2, q3, q4, q5, q6, q7, -⟩ := hA.2 b b1 b2
  obtain ⟨x, x1, x2⟩ := zbt_m (x := s 8 a) (k := s 9 b) (by omega) (by omega) (by omega) (by omega)
  obtain ⟨y, y1, y2⟩ := zbt_m (x := s 8 b) (k := s 9 a) (by omega) (by omega) (by omega) (by omega)
  have xr := x1.r
  have yr := y1.r
  have hx := x1.z
  have hy := y1.z
  simp (discharger := omega) only [zm146, zm146_63, ↓zM_ob, ↓zMi3 hM, ↓zMi5 hM, ↓zMi6 hM, ↓zMi7 hM, ↓zMi8 hM, ↓zMi9 hM, zE_0, zE_1, zE_2, zE_3, zE_4, zE_5, zE_6, zE_7, zE_8, zE_9, zE_10, zE_11, zE_12, zE_13, zE_14, zE_neg, x2, y2, zE_inj]
  clear x1 y1 x2 y2 hM hA p1 p2 p3 p4 p5 p6 p7 q1 q2 q3 q4 q5 q6 q7 hn
  by_cases e0 : s 3 a = s 3 b
  · rw [if_pos e0]
    split
    · exact ⟨1, Or.inl ⟨e0, Or.inl ⟨hx.mp (by assumption), rfl⟩⟩, rfl⟩
    · split
      · exact ⟨2, Or.inl ⟨e0, Or.inr (Or.inl ⟨Classical.not_not.mp (fun z => absurd (hx.mpr z) (by assumption)), hy.mp (by assumption), rfl⟩)⟩, rfl⟩
      · exact ⟨0, Or.inl ⟨e0, Or.inr (Or.inr ⟨Classical.not_not.mp (fun z => absurd (hx.mpr z) (by assumption)), Classical.not_not.mp (fun z => absurd (hy.mpr z) (by assumption)), rfl⟩)⟩, rfl⟩
  · rw [if_neg e0]
    have z1 : zE 1 ≠ zE 0 := by decide
    simp only [z1, if_true, if_false, ite_self]
    repeat' split
    all_goals refine ⟨_, Or.inr ⟨e0, ?_⟩, rfl⟩
    all_goals first
      | (refine Or.inl ?_; simp_all [zlk]; done)
      | (refine Or.inr (Or.inl ?_); simp_all [zlk]; done)
      | (refine Or.inr (Or.inr ?_); simp_all [zlk]; done)
/-- live: stable or a candidate in a ring, or in a session -/
def zlvR (s : zS) (a w : Int) (r : Int) : Prop := s 12 (3 * s 3 a + r) = a ∧ r ≠ w ∨ s 13 (3 * s 3 a + r) = a
def zlvC (s : zS) (a c : Int) : Prop := s 18 (200 * s 3 a + c) = a
def zlv (s : zS) (a w : Int) : Prop := zxs 0 3 (zlvR s a w) ∨ zxs 0 200 (zlvC s a)
theorem zp148_9 {h : zH} {s : zS} (hM : zMd h s) (hA : zWa s) (hK : zWk s) {k : zq → Int32 → Int32 → Int32 → zH → zRs Int32} {a w : Int} (a1 : 0 ≤ a) (a2 : a < s 2 0) (hw : -1 ≤ w ∧ w < 100) :
    ∃ b', zbo b' (zxs 0 3 (zlvR s a w)) ∧ zm148_9 k zN0 (some (13, 0)) (zE a) (zE w) (zE 0) (zE (s 3 a)) (zE 0) h = k (some (13, 0)) (zE a) (zE b') (zE (s 3 a)) h := by
  have hn := hA.1
  have hv := (hA.2 a a1 a2).1
  refine zloop0 (W := fun n i b => zm148_9 k n (some (13, 0)) (zE a) (zE w) (zE b) (zE (s 3 a)) (zE i) h) (N := 3) (fun i b => zbo b (zxs 0 i (zlvR s a w))) (fun r => ∃ b', zbo b' (zxs 0 3 (zlvR s a w)) ∧ r = k (some (13, 0)) (zE a) (zE b') (zE (s 3 a)) h) 0 (zbo_0 zxs_n) (by decide) (by decide) ?_ ?_
  · intro n b hb
    refine ⟨b, hb, ?_⟩
    simp only [zm148_9, zE_3, Int32.le_refl, if_true]
  · intro n i b h1 h2 hb
    refine Or.inr ?_
    obtain ⟨c1, c2, -⟩ := hK (3 * s 3 a + i) (by omega) (by omega)
    have hbr := hb.r
    have hz := hb.z
    have h3 : ¬ 3 ≤ i := by omega
    simp (discharger := omega) only [zm148_9, zm148_27, zm148_40, ↓zlet_s, ↓zM_ob, ↓zri_m3, zE_add, ↓zMi12 hM, ↓zMi13 hM, zE_inj, zE_le, zE_0, zE_1, zE_2, zE_3, zE_4, zE_5, zE_6, zE_7, zE_8, zE_9, zE_10, zE_11, zE_12, zE_13, zE_14, zE_neg, h3, if_false, zxs_s]
    clear hb hM hA hK
    repeat' split
    all_goals refine ⟨_, ?_, rfl⟩
    all_goals first
      | (refine zbo_1 ?_; simp_all [zlvR]; done)
      | (refine zbo_0 ?_; simp_all [zlvR]; done)
theorem zp148_45 {h : zH} {s : zS} (hM : zMd h s) (hA : zWa s) (hC : zWc s) {a b0 : Int} {Q : Prop} (a1 : 0 ≤ a) (a2 : a < s 2 0) (hb0 : zbo b0 Q) :
    ∃ b', zbo b' (Q ∨ zxs 0 200 (zlvC s a)) ∧ zm148_45 zN0 (some (13, 0)) (zE a) (zE b0) (zE (s 3 a)) (zE 0) h = some (.inl (zE b'), h) := by
  have hn := hA.1
  have hv := (hA.2 a a1 a2).1
  refine zloop0 (W := fun n i b => zm148_45 n (some (13, 0)) (zE a) (zE b) (zE (s 3 a)) (zE i) h) (N := 200) (fun i b => zbo b (Q ∨ zxs 0 i (zlvC s a))) (fun r => ∃ b', zbo b' (Q ∨ zxs 0 200 (zlvC s a)) ∧ r = some (.inl (zE b'), h)) b0 (hb0.cg ⟨Or.inl, fun z => z.elim id (fun z => absurd z zxs_n)⟩) (by decide) (by decide) ?_ ?_
  · intro n b hb
    refine ⟨b, hb, ?_⟩
    simp only [zm148_45, zE_200, Int32.le_refl, if_true]
    exact zif_s hb.e
  · intro n i b h1 h2 hb
    rcases hb with ⟨rfl, hQ⟩ | ⟨rfl, hQ⟩
    · refine Or.inl ⟨1, zbo_1 (hQ.imp id (fun ⟨r, a, b, c⟩ => ⟨r, a, by omega, c⟩)), ?_⟩
      have h3 : ¬ 200 ≤ i := by omega
      simp (discharger := omega) only [zm148_45, zE_200, zE_le, h3, if_false]
      rfl
    · refine Or.inr ?_
      obtain ⟨c1, c2, -⟩ := hC.2 (200 * s 3 a + i) (by omega) (by omega)
      have h3 : ¬ 200 ≤ i := by omega
      simp (discharger := omega) only [zm148_45, zm148_63, ↓zlet_s, ↓zM_ob, ↓zri_m200, zE_200, zE_add, ↓zMi18 hM, zE_inj, zE_le, zE_0, zE_1, zE_2, zE_3, zE_4, zE_5, zE_6, zE_7, zE_8, zE_9, zE_10, zE_11, zE_12, zE_13, zE_14, zE_neg, h3, if_false, if_true, zxs_s]
      clear hM hA hC
      split
      · exact ⟨1, zbo_1 (Or.inr (Or.inr (by unfold zlvC; assumption))), rfl⟩
      · refine ⟨0, zbo_0 ?_, rfl⟩
        rintro (z | z | z)
        · exact hQ (Or.inl z)
        · exact hQ (Or.inr z)
        · exact absurd z (by unfold zlvC; assumption)
theorem zp148 {h : zH} {s : zS} (hM : zMd h s) (hA : zWa s) (hK : zWk s) (hC : zWc s) {a w : Int} (a1 : 0 ≤ a) (a2 : a < s 2 0) (hw : -1 ≤ w ∧ w < 100) :
    ∃ b, zbo b (zlv s a w) ∧ zm148 (some (13, 0)) (zE a) (zE w) h = some (.inl (zE b), h) := by
  have hn := hA.1
  obtain ⟨b1, e1, e2⟩ := zp148_9 hM hA hK (k := zm148_43) (w := w) a1 a2 hw
  obtain ⟨b2, e3, e4⟩ := zp148_45 hM hA hC a1 a2 e1
  refine ⟨b2, e3, ?_⟩
  simp (discharger := omega) only [zm148, ↓zM_ob, ↓zMi3 hM, ↓zlet_s, zE_0]
  rw [e2, zm148_43, zE_0]
  exact e4
