set_option maxRecDepth 16384
/-! The class's methods that only read: what may go. -/
theorem zlk_n {t r : Nat} (ht : t < 256) : (Int32.ofNat t &&& (Int32.ofNat r ^^^ Int32.ofInt (-1))) = 0 ↔ ∀ k, k < 8 → t.testBit k = true → r.testBit k = true := by
  have e1 : ∀ k, k < 32 → ((Int32.ofNat t &&& (Int32.ofNat r ^^^ Int32.ofInt (-1))).toBitVec).getLsbD k = (t.testBit k && !r.testBit k) := by
    intro k hk
    have e2 : (Int32.ofInt (-1)).toBitVec = BitVec.allOnes 32 := by decide
    rw [Int32.toBitVec_and, Int32.toBitVec_xor, e2, BitVec.getLsbD_and, BitVec.getLsbD_xor]
    show ((BitVec.ofNat 32 t).getLsbD k && ((BitVec.ofNat 32 r).getLsbD k ^^ (BitVec.allOnes 32).getLsbD k)) = _
    rw [BitVec.getLsbD_ofNat, BitVec.getLsbD_ofNat, BitVec.getLsbD_allOnes]
    simp [hk]
  constructor
  · intro h k hk h1
    have h2 := e1 k (by omega)
    rw [h] at h2
    have h3 : ((0 : Int32).toBitVec).getLsbD k = false := by
      show (0#32).getLsbD k = false
      simp
    rw [h3, h1] at h2
    cases hr : r.testBit k with
    | true => rfl
    | false => rw [hr] at h2; cases h2
  · intro h
    rw [← Int32.toBitVec_inj]
    refine BitVec.eq_of_getLsbD_eq fun k hk => ?_
    rw [e1 k hk]
    have h3 : ((0 : Int32).toBitVec).getLsbD k = false := by
      show (0#32).getLsbD k = false
      simp
    rw [h3]
    by_cases h8 : k < 8
    · cases ht1 : t.testBit k with
      | false => rfl
      | true => rw [h k h8 ht1]; rfl
    · have : t.testBit k = false := Nat.testBit_lt_two_pow (Nat.lt_of_lt_of_le ht (show 2 ^ 8 ≤ 2 ^ k from Nat.pow_le_pow_right (by decide) (Nat.le_of_not_lt h8)))
      rw [this]
      rfl
theorem zlk_s {t r : Int} (h1 : 0 ≤ t) (h2 : t ≤ 255) (h3 : 0 ≤ r) : ((zE t &&& (zE r ^^^ zE (-1))) = zE 0) = ∀ k : Int, 0 ≤ k → k < 8 → zbt t k → zbt r k := by
  have e := zlk_n (t := t.toNat) (r := r.toNat) (by omega)
  have c1 : Int32.ofNat t.toNat = zE t := by rw [← Int32.ofInt_eq_ofNat, Int.toNat_of_nonneg h1]; rfl
  have c2 : Int32.ofNat r.toNat = zE r := by rw [← Int32.ofInt_eq_ofNat, Int.toNat_of_nonneg h3]; rfl
  rw [c1, c2] at e
  refine propext (Iff.trans e ⟨fun h k k1 k2 k3 => h k.toNat (by omega) k3, fun h k k1 k2 => ?_⟩)
  have := h (k : Int) (by omega) (by omega)
  unfold zbt at this
  rw [Int.toNat_natCast] at this
  exact this k2
theorem zor_d : ∀ t, t < 256 → ∀ i, i < 8 → ((Int32.ofInt (t : Nat)) ||| ((1 : Int32) <<< ((Int32.ofInt (i : Nat)) &&& 31))) = Int32.ofInt ((t ||| 1 <<< i : Nat) : Int) ∧ (t ||| 1 <<< i) < 256 ∧ ∀ k, k < 8 → ((t ||| 1 <<< i).testBit k = (t.testBit k || k == i)) := by decide +kernel
theorem zor_s {t i : Int} (h1 : 0 ≤ t) (h2 : t ≤ 255) (h3 : 0 ≤ i) (h4 : i ≤ 7) : ∃ u, (zE t ||| (zE 1 <<< (zE i &&& 31))) = zE u ∧ 0 ≤ u ∧ u ≤ 255 ∧ ∀ k, 0 ≤ k → k < 8 → (zbt u k ↔ (zbt t k ∨ k = i)) := by
  obtain ⟨e1, e2, e3⟩ := zor_d t.toNat (by omega) i.toNat (by omega)
  rw [Int.toNat_of_nonneg h1, Int.toNat_of_nonneg h3] at e1
  refine ⟨_, e1, by omega, by omega, fun k k1 k2 => ?_⟩
  have := e3 k.toNat (by omega)
  unfold zbt
  rw [Int.toNat_natCast, this, Bool.or_eq_true, beq_iff_eq]
  exact or_congr Iff.rfl ⟨fun z => by omega, fun z => by omega⟩
theorem zc133 {h : zH} {x k : Int} (h1 : 0 ≤ x) (h2 : x ≤ 255) (h3 : 0 ≤ k) (h4 : k ≤ 7) : ∃ b, zbo b (zbt x k) ∧ zm133 (zE x) (zE k) h = some (.inl (zE b), h) := by
  have e := zbt_c (x := x) (k := k) h1 h2 h3 h4
  by_cases c : zbt x k
  · refine ⟨1, zbo_1 c, ?_⟩
    simp only [zm133, zE_0, zE_1, zE_2, zE_3, zE_4, zE_5, zE_6, zE_7, zE_8, zE_9, zE_10, zE_11, zE_12, zE_13, zE_14, zE_neg, e]
    rw [if_neg (not_not_intro c)]
  · refine ⟨0, zbo_0 c, ?_⟩
    simp only [zm133, zE_0, zE_1, zE_2, zE_3, zE_4, zE_5, zE_6, zE_7, zE_8, zE_9, zE_10, zE_11, zE_12, zE_13, zE_14, zE_neg, e]
    rw [if_pos c]
theorem zc25 {h : zH} {s : zS} (hV : zCV h s) (hC : zCA h s) (hA : zWa s) (hD : zWd s) {a v : Int} (a1 : 0 ≤ a) (a2 : a < s 2 0) (hv : s 3 a = v) : ∃ b, zbo b (zfd s a) ∧ zm25 (some (9, v.toNat)) (some (0, a.toNat)) h = some (.inl (zE b), h) := by
  have hn := hA.1
  obtain ⟨p3, -, -, -, -, p8, p9, -⟩ := hA.2 a a1 a2
  rw [hv] at p3
  obtain ⟨u1, -, u3, -⟩ := hD.2.2 v (by omega) (by omega)
  have ht := hD.1
  rw [zm25, zE_0]
  have hin : ∀ k, ((∃ t, 0 ≤ t ∧ t ≤ 255 ∧ (∀ k, 0 ≤ k → k < 8 → (zbt t k ↔ (0 < s 20 (8 * v + k) ∨ k = s 23 v))) ∧ k = zm25_24 (some (9, v.toNat)) (some (0, a.toNat)) (zE t) h)) → ∃ b, zbo b (zfd s a) ∧ k = some (.inl (zE b), h) := by
    rintro k ⟨t, t1, t2, t3, rfl⟩
    obtain ⟨b, b1, b2⟩ := zc133 (h := h) (x := s 21 v) (k := s 9 a) (by omega) (by omega) (by omega) (by omega)
    have e := zlk_s (t := t) (r := s 8 a) t1 t2 (by omega)
    have hq : (∀ k : Int, 0 ≤ k → k < 8 → zbt t k → zbt (s 8 a) k) ↔ ((s 23 v = -1 ∨ zbt (s 8 a) (s 23 v)) ∧ ¬ zxs 0 8 (zfdP s a)) := by
      constructor
      · intro q
        refine ⟨?_, ?_⟩
        · by_cases e : s 23 v = -1
          · exact Or.inl e
          · exact Or.inr (q _ (by omega) (by omega) ((t3 _ (by omega) (by omega)).mpr (Or.inr rfl)))
        · rintro ⟨k, k1, k2, k3⟩
          unfold zfdP at k3
          rw [hv] at k3
          have := (hD.2.1 (8 * v + k) (by omega) (by omega)).1
          by_cases e : s 20 (8 * v + k) = 0
          · exact k3 (Or.inl e)
          · exact k3 (Or.inr (q k k1 k2 ((t3 k k1 k2).mpr (Or.inl (by omega)))))
      · rintro ⟨q1, q2⟩ k k1 k2 k3
        rcases (t3 k k1 k2).mp k3 with z | z
        · refine Classical.not_not.mp fun q => q2 ⟨k, k1, k2, ?_⟩
          unfold zfdP
          rw [hv]
          exact fun w => w.elim (fun w => by omega) q
        · subst z
          exact q1.elim (fun z => by omega) id
    have z1 : ¬ zE 1 = zE 0 := by decide
    rcases b1 with ⟨rfl, b1⟩ | ⟨rfl, b1⟩
    · by_cases c : (∀ k : Int, 0 ≤ k → k < 8 → zbt t k → zbt (s 8 a) k)
      · refine ⟨1, zbo_1 ?_, ?_⟩
        · unfold zfd
          rw [hv]
          exact ⟨b1, hq.mp c⟩
        · simp (discharger := omega) only [zm25_24, ↓zo_9, ↓zo_0, zCv3 hV, zCa7 hC, zCa6 hC, b2, zb2_s, zE_0, zE_1, zE_2, zE_3, zE_4, zE_5, zE_6, zE_7, zE_8, zE_9, zE_10, zE_11, zE_12, zE_13, zE_14, zE_neg, z1, if_false]
          rw [if_pos (e.mpr c)]
      · refine ⟨0, zbo_0 ?_, ?_⟩
        · unfold zfd
          rw [hv]
          exact fun z => c (hq.mpr z.2)
        · simp (discharger := omega) only [zm25_24, ↓zo_9, ↓zo_0, zCv3 hV, zCa7 hC, zCa6 hC, b2, zb2_s, zE_0, zE_1, zE_2, zE_3, zE_4, zE_5, zE_6, zE_7, zE_8, zE_9, zE_10, zE_11, zE_12, zE_13, zE_14, zE_neg, z1, if_false]
          rw [if_neg (fun z => c (e.mp z))]
    · refine ⟨0, zbo_0 ?_, ?_⟩
      · unfold zfd
        rw [hv]
        exact fun z => b1 z.1
      · simp (discharger := omega) only [zm25_24, ↓zo_9, ↓zo_0, zCv3 hV, zCa7 hC, zCa6 hC, b2, zb2_s, zE_0, zE_1, zE_2, zE_3, zE_4, zE_5, zE_6, zE_7, zE_8, zE_9, zE_10, zE_11, zE_12, zE_13, zE_14, zE_neg, if_true]
  refine zloop0 (W := fun n i t => zm25_4 zm25_24 n (some (9, v.toNat)) (some (0, a.toNat)) (zE t) (zE i) h) (N := 8) (fun i t => 0 ≤ t ∧ t ≤ 255 ∧ ∀ k, 0 ≤ k → k < 8 → (zbt t k ↔ (k < i ∧ (0 < s 20 (8 * v + k) ∨ k = s 23 v)))) (fun r => ∃ b, zbo b (zfd s a) ∧ r = some (.inl (zE b), h)) 0 ⟨by omega, by omega, fun k k1 k2 => ⟨fun z => absurd z (by unfold zbt; simp), fun z => by omega⟩⟩ (by decide) (by decide) ?_ ?_
  · intro n t ht
    refine hin _ ⟨t, ht.1, ht.2.1, fun k k1 k2 => (ht.2.2 k k1 k2).trans ⟨And.right, fun z => ⟨k2, z⟩⟩, ?_⟩
    simp only [zm25_4, zE_8, Int32.le_refl, if_true]
  · intro n i t h1 h2 hb
    obtain ⟨t1, t2, t3⟩ := hb
    have h3 : ¬ 8 ≤ i := by omega
    have hu := hD.2.1 (8 * v + i) (by omega) (by omega)
    refine Or.inr ?_
    by_cases c : 0 < s 20 (8 * v + i) ∨ i = s 23 v
    · obtain ⟨u, e1, e2, e3, e4⟩ := zor_s (t := t) (i := i) t1 t2 h1 (by omega)
      refine ⟨u, ⟨e2, e3, fun k k1 k2 => ?_⟩, ?_⟩
      · rw [e4 k k1 k2, t3 k k1 k2]
        constructor
        · rintro (z | rfl)
          · exact ⟨by omega, z.2⟩
          · exact ⟨by omega, c⟩
        · rintro ⟨z1, z2⟩
          by_cases e : k = i
          · exact Or.inr e
          · exact Or.inl ⟨by omega, z2⟩
      · by_cases c1 : 0 < s 20 (8 * v + i)
        · simp (discharger := omega) only [zm25_4, zm25_16, zm25_22, ↓zlet_s, ↓zo_9, ↓zLUi hV, zE_0, zE_1, zE_2, zE_3, zE_4, zE_5, zE_6, zE_7, zE_8, zE_9, zE_10, zE_11, zE_12, zE_13, zE_14, zE_neg, zE_le, zE_lt, zE_add, e1, h3, c1, if_true, if_false]
        · have c2 := c.resolve_left c1
          simp (discharger := omega) only [zm25_4, zm25_16, zm25_22, ↓zlet_s, ↓zo_9, ↓zLUi hV, zCv5 hV, zE_0, zE_1, zE_2, zE_3, zE_4, zE_5, zE_6, zE_7, zE_8, zE_9, zE_10, zE_11, zE_12, zE_13, zE_14, zE_neg, zE_le, zE_lt, zE_inj, zE_add, e1, h3, c1, if_pos c2, if_false]
    · refine ⟨t, ⟨t1, t2, fun k k1 k2 => ?_⟩, ?_⟩
      · rw [t3 k k1 k2]
        constructor
        · exact fun z => ⟨by omega, z.2⟩
        · rintro ⟨z1, z2⟩
          by_cases e : k = i
          · subst e; exact absurd z2 c
          · exact ⟨by omega, z2⟩
      · have c1 : ¬ 0 < s 20 (8 * v + i) := fun z => c (Or.inl z)
        have c2 : ¬ i = s 23 v := fun z => c (Or.inr z)
        simp (discharger := omega) only [zm25_4, zm25_16, zm25_22, ↓zlet_s, ↓zo_9, ↓zLUi hV, zCv5 hV, zE_0, zE_1, zE_2, zE_3, zE_4, zE_5, zE_6, zE_7, zE_8, zE_9, zE_10, zE_11, zE_12, zE_13, zE_14, zE_neg, zE_le, zE_lt, zE_inj, zE_add, h3, c1, c2, if_false]
theorem zrs_e {s : zS} (hA : zWa s) {a b : Int} (a1 : 0 ≤ a) (a2 : a < s 2 0) (b1 : 0 ≤ b) (b2 : b < s 2 0) : ∃ v, zrs s a b v := by
  by_cases e : s 3 a = s 3 b
  · by_cases c1 : zbt (s 8 a) (s 9 b)
    · by_cases c2 : zbt (s 8 b) (s 9 a)
      · exact ⟨0, Or.inl ⟨e, Or.inr (Or.inr ⟨c1, c2, rfl⟩)⟩⟩
      · exact ⟨2, Or.inl ⟨e, Or.inr (Or.inl ⟨c1, c2, rfl⟩)⟩⟩
    · exact ⟨1, Or.inl ⟨e, Or.inl ⟨c1, rfl⟩⟩⟩
  · by_cases c1 : s 7 a = s 3 b ∧ zlk (s 6 a) (s 5 b)
    · exact ⟨3, Or.inr ⟨e, Or.inl ⟨c1, rfl⟩⟩⟩
    · by_cases c2 : s 7 b = s 3 a ∧ zlk (s 6 b) (s 5 a)
      · exact ⟨4, Or.inr ⟨e, Or.inr (Or.inl ⟨c1, c2, rfl⟩)⟩⟩
      · exact ⟨0, Or.inr ⟨e, Or.inr (Or.inr ⟨c1, c2, rfl⟩)⟩⟩
theorem zmyV_u {s : zS} {a v w : Int} (h : zmyV s a v) (h' : zmyV s a w) : v = w := by
  unfold zmyV at h h'
  rcases h with ⟨p1, e⟩ | ⟨p1, p2, e⟩ | ⟨p1, p2, p3, e⟩ | ⟨p1, p2, p3, e⟩ <;> rcases h' with ⟨q1, e'⟩ | ⟨q1, q2, e'⟩ | ⟨q1, q2, q3, e'⟩ | ⟨q1, q2, q3, e'⟩ <;> first
    | exact e.trans e'.symm
    | exact absurd p1 q1
    | exact absurd q1 p1
    | exact absurd p2 q2
    | exact absurd q2 p2
    | exact absurd p3 q3
    | exact absurd q3 p3
theorem zmyV_r {s : zS} {a v : Int} (h : zmyV s a v) : 0 ≤ v ∧ v ≤ 7 := by
  rcases h with ⟨-, e⟩ | ⟨-, -, e⟩ | ⟨-, -, -, e⟩ | ⟨-, -, -, e⟩ <;> omega
/-- why an artefact may not go -/
theorem zc45 {h : zH} {s : zS} (hR : zCr h) (hC : zCA h s) (hV : zCV h s) (hA : zWa s) (hK : zWk s) (hS : zWc s) (hD : zWd s) {a : Int} (a1 : 0 ≤ a) (a2 : a < s 2 0) : ∃ v, zmyV s a v ∧ zm45 (some (12, 0)) (some (0, a.toNat)) h = some (.inl (zE v), h) := by
  have hn := hA.1
  have hu := zus_r s a
  have hp := zus_p hA hK hS a1 a2
  have p3 := (hA.2 a a1 a2).1
  have z1 : ¬ zE 1 = zE 0 := by decide
  by_cases e1 : zus s a ≤ 0
  · have nl : ¬ zlv s a (-1) := fun z => by have := hp.mpr z; omega
    obtain ⟨f, f1, f2⟩ := zc46 hR hC hA hK hS (w := -1) a1 a2 (by omega)
    rw [zrf_n] at f2
    have hb : zxs 0 (s 2 0) (zbad s a) ↔ zxs 0 (s 2 0) (zfi2 s a (-1)) := zxs.cg fun b b1 b2 => ⟨fun z => ⟨z.2.1, z.1, by omega, z.2.2⟩, fun z => ⟨z.2.1, z.1, z.2.2.2⟩⟩
    rcases f1 with ⟨rfl, f1⟩ | ⟨rfl, f1⟩
    · obtain ⟨d, d1, d2⟩ := zc25 hV hC hA hD a1 a2 rfl
      obtain ⟨w, w1, w2⟩ := zc47 hR hC hA hK hS a1 a2
      have ho : zxs 0 (s 2 0) (fun b => zlv s b (-1) ∧ s 3 b = s 7 a) ↔ zxs 0 (s 2 0) (zoth s a) := zxs.cg fun b b1 b2 => ⟨fun z => ⟨fun e => nl (e ▸ z.1), z⟩, fun z => z.2⟩
      rw [ho] at w1
      rcases d1 with ⟨rfl, d1⟩ | ⟨rfl, d1⟩
      · rcases w1 with ⟨rfl, w1⟩ | ⟨rfl, w1⟩
        · refine ⟨0, Or.inr (Or.inr (Or.inl ⟨nl, fun z => f1 (hb.mp z), ⟨w1, d1⟩, rfl⟩)), ?_⟩
          simp (discharger := omega) only [zm45, ↓zo_0, ↓zo_12, ↓zo_9, zCa10 hC, zCa1 hC, ↓zLVa hR hV, zE_le, zE_0, zE_1, zE_2, zE_3, zE_4, zE_5, zE_6, zE_7, zE_8, zE_9, zE_10, zE_11, zE_12, zE_13, zE_14, zE_neg, e1, f2, d2, w2, zb_s, z1, if_true, if_false]
        · refine ⟨7, Or.inr (Or.inr (Or.inr ⟨nl, fun z => f1 (hb.mp z), fun z => w1 z.1, rfl⟩)), ?_⟩
          simp (discharger := omega) only [zm45, ↓zo_0, ↓zo_12, ↓zo_9, zCa10 hC, zCa1 hC, ↓zLVa hR hV, zE_le, zE_0, zE_1, zE_2, zE_3, zE_4, zE_5, zE_6, zE_7, zE_8, zE_9, zE_10, zE_11, zE_12, zE_13, zE_14, zE_neg, e1, f2, d2, w2, zb_s, z1, if_true, if_false]
      · refine ⟨7, Or.inr (Or.inr (Or.inr ⟨nl, fun z => f1 (hb.mp z), fun z => d1 z.2, rfl⟩)), ?_⟩
        simp (discharger := omega) only [zm45, ↓zo_0, ↓zo_12, ↓zo_9, zCa10 hC, zCa1 hC, ↓zLVa hR hV, zE_le, zE_0, zE_1, zE_2, zE_3, zE_4, zE_5, zE_6, zE_7, zE_8, zE_9, zE_10, zE_11, zE_12, zE_13, zE_14, zE_neg, e1, f2, d2, zb_s, z1, if_true, if_false]
    · refine ⟨6, Or.inr (Or.inl ⟨nl, hb.mpr (Classical.not_not.mp f1), rfl⟩), ?_⟩
      simp (discharger := omega) only [zm45, ↓zo_0, ↓zo_12, zCa10 hC, zE_le, zE_0, zE_1, zE_2, zE_3, zE_4, zE_5, zE_6, zE_7, zE_8, zE_9, zE_10, zE_11, zE_12, zE_13, zE_14, zE_neg, e1, f2, zb_s, if_true, if_false]
  · refine ⟨0, Or.inl ⟨hp.mp (by omega), rfl⟩, ?_⟩
    simp (discharger := omega) only [zm45, ↓zo_0, zCa10 hC, zE_le, zE_0, zE_1, zE_2, zE_3, zE_4, zE_5, zE_6, zE_7, zE_8, zE_9, zE_10, zE_11, zE_12, zE_13, zE_14, zE_neg, e1, if_false]

