set_option maxRecDepth 16384
/-! seers, the way out: both sides. -/
def zsrP (s : zS) (a r c : Int) : Prop := zrgf c = r ∧ zsnf s (s 3 a) c = a
theorem zcnt_1 {P : Int → Prop} {i : Int} (h : 0 ≤ i) : zcnt P (i + 1).toNat = zcnt P i.toNat + zcn1 (P i) := by
  rw [show (i + 1).toNat = i.toNat + 1 by omega]
  show zcnt P i.toNat + zcn1 (P (i.toNat : Int)) = _
  rw [Int.toNat_of_nonneg h]
theorem zc90_19 {h : zH} {s : zS} (hR : zCr h) (hA' : zCA h s) (hV : zCV h s) (hKk : zCK h s) (hA : zWa s) (hK : zWk s) (hC : zWc s) {a r : Int} (a1 : 0 ≤ a) (a2 : a < s 2 0) (r1 : 0 ≤ r) (r2 : r ≤ 2) : zm90_19 zN0 (some (12, 0)) (zE r) (some (0, a.toNat)) (zE 0) (zE 0) h = some (.inl (zE (zcnt (zsrP s a r) 200)), h) := by
  have hn := hA.1
  have hv := (hA.2 a a1 a2).1
  refine zloop0 (W := fun n i t => zm90_19 n (some (12, 0)) (zE r) (some (0, a.toNat)) (zE t) (zE i) h) (N := 200) (fun i t => t = zcnt (zsrP s a r) i.toNat) (fun x => x = some (.inl (zE (zcnt (zsrP s a r) 200)), h)) 0 rfl (by decide) (by decide) ?_ ?_
  · intro n t ht
    subst ht
    simp only [zm90_19, zE_200, Int32.le_refl, if_true]
    rfl
  · intro n i t h1 h2 ht
    have h3 : ¬ 200 ≤ i := by omega
    have hg := zrgf_r i
    refine Or.inr ⟨t + zcn1 (zsrP s a r i), by rw [zcnt_1 h1, ht], ?_⟩
    by_cases e1 : zrgf i = r
    · have e2 := zc89 hR hV hKk hA hK hC (v := s 3 a) (c := i) (by omega) (by omega) h1 h2
      obtain ⟨q1, q2⟩ := zsnf_r hK hC (v := s 3 a) (c := i) (by omega) (by omega) h1 h2
      have e3 : (zrf 0 (zsnf s (s 3 a) i) = some (0, a.toNat)) = (zsnf s (s 3 a) i = a) := by rw [← zrf_s (k := 0) a1, zrf_i q1 (by omega)]
      by_cases e4 : zsnf s (s 3 a) i = a
      · rw [zcn1_t (show zsrP s a r i from ⟨e1, e4⟩)]
        simp (discharger := omega) only [zm90_19, zm90_34, zE_200, zE_le, h3, if_false, zc135, ↓zb_s, zE_inj, e1, if_true, ↓zo_0, ↓zo_12, zCa1 hA', e2, e3, if_pos e4, ↓zlet_s, zE_1, zE_add]
      · rw [zcn1_f (show ¬ zsrP s a r i from fun z => e4 z.2), Int.add_zero]
        simp (discharger := omega) only [zm90_19, zm90_34, zE_200, zE_le, h3, if_false, zc135, ↓zb_s, zE_inj, e1, if_true, ↓zo_0, ↓zo_12, zCa1 hA', e2, e3, e4, ↓zlet_s, zE_1, zE_add]
    · rw [zcn1_f (show ¬ zsrP s a r i from fun z => e1 z.1), Int.add_zero]
      simp (discharger := omega) only [zm90_19, zm90_34, zE_200, zE_le, h3, if_false, zc135, ↓zb_s, zE_inj, e1, ↓zlet_s, zE_1, zE_add]
theorem zp198_23 {h : zH} {s : zS} (hM : zMd h s) (hA : zWa s) (hK : zWk s) (hC : zWc s) {a r : Int} (a1 : 0 ≤ a) (a2 : a < s 2 0) (r1 : 0 ≤ r) (r2 : r ≤ 2) : zm198_23 zN0 (some (13, 0)) (zE a) (zE r) (zE 0) (zE 0) h = some (.inl (zE (zcnt (zsrP s a r) 200)), h) := by
  have hn := hA.1
  have hv := (hA.2 a a1 a2).1
  refine zloop0 (W := fun n i t => zm198_23 n (some (13, 0)) (zE a) (zE r) (zE t) (zE i) h) (N := 200) (fun i t => t = zcnt (zsrP s a r) i.toNat) (fun x => x = some (.inl (zE (zcnt (zsrP s a r) 200)), h)) 0 rfl (by decide) (by decide) ?_ ?_
  · intro n t ht
    subst ht
    simp only [zm198_23, zE_200, Int32.le_refl, if_true]
    rfl
  · intro n i t h1 h2 ht
    have h3 : ¬ 200 ≤ i := by omega
    have hg := zrgf_r i
    refine Or.inr ⟨t + zcn1 (zsrP s a r i), by rw [zcnt_1 h1, ht], ?_⟩
    by_cases e1 : zrgf i = r
    · have e2 := zp195 hM hA hK hC (v := s 3 a) (c := i) (by omega) (by omega) h1 h2
      obtain ⟨q1, q2⟩ := zsnf_r hK hC (v := s 3 a) (c := i) (by omega) (by omega) h1 h2
      by_cases e4 : zsnf s (s 3 a) i = a
      · rw [zcn1_t (show zsrP s a r i from ⟨e1, e4⟩)]
        simp (discharger := omega) only [zm198_23, zm198_43, zE_200, zE_le, h3, if_false, zp144, ↓zb_s, zE_inj, e1, if_true, ↓zM_ob, ↓zMi3 hM, e2, if_pos e4, ↓zlet_s, zE_1, zE_add]
      · rw [zcn1_f (show ¬ zsrP s a r i from fun z => e4 z.2)]
        simp (discharger := omega) only [zm198_23, zm198_43, zE_200, zE_le, h3, if_false, zp144, ↓zb_s, zE_inj, e1, if_true, ↓zM_ob, ↓zMi3 hM, e2, e4, ↓zlet_s, zE_0, zE_1, zE_add]
    · rw [zcn1_f (show ¬ zsrP s a r i from fun z => e1 z.1)]
      simp (discharger := omega) only [zm198_23, zm198_43, zE_200, zE_le, h3, if_false, zp144, ↓zb_s, zE_inj, e1, ↓zlet_s, zE_0, zE_1, zE_add]
theorem zr_seers (x y : Int32) : zPrI (fun h => zm90 (some (12, 0)) x y h) (fun h => zm198 (some (13, 0)) x y h) (fun t => if t = 1 then 2 else 0) 2 := by
  refine zPrI_ro fun h s hC hM hW => ?_
  obtain ⟨a, rfl, a1, a2⟩ := zE_ex x
  obtain ⟨r, rfl, r1, r2⟩ := zE_ex y
  obtain ⟨cr, cs, cA, cP, cR, cZ, cT, cE, cV, cK, -⟩ := hC
  obtain ⟨wA, wK, wC, wD, -⟩ := hW
  have hn := wA.1
  have z1 : ¬ zE 1 = zE 0 := by decide
  have z2 : ¬ zE 1 ≤ zE 0 := by decide
  have z3 : ¬ zE 2 ≤ zE 0 := by decide
  by_cases c : 0 ≤ a ∧ a < s 2 0
  · by_cases d : 0 ≤ r ∧ r ≤ 2
    · refine ⟨0, zcnt (zsrP s a r) 200, zcnt (zsrP s a r) 200, by omega, by omega, Or.inl ⟨rfl, ?_⟩, fun _ => rfl, fun h' hM' => ?_⟩
      · have e := zc90_19 cr cA cV cK wA wK wC c.1 c.2 d.1 d.2
        simp (discharger := omega) only [zm90, ↓zo_12, ↓zLAz cr cA, zc130, if_pos c, zE_0, zE_1, zE_2, zE_3, zE_4, zE_5, zE_6, zE_7, zE_8, zE_9, zE_10, zE_11, zE_12, zE_13, zE_14, zE_neg, zc131, if_pos d, ↓zb_s, ↓zLAg cr cA, ↓zo_0, e]
      · obtain ⟨p, p1, p2⟩ := zp142 hM' wA (x := a) a1 a2
        obtain ⟨q, q1, q2⟩ := zp141 (h := h') (x := r) r1 r2
        have hM1 := hM'.ws 0 (by decide) 0
        have e := zp198_23 hM1 (show zWa (zup s 0 0 0) from wA) (show zWk (zup s 0 0 0) from wK) (show zWc (zup s 0 0 0) from wC) c.1 c.2 d.1 d.2
        rcases p1 with ⟨rfl, -⟩ | ⟨rfl, p1⟩
        · rcases q1 with ⟨rfl, -⟩ | ⟨rfl, q1⟩
          · simp (discharger := omega) only [zm198, zm198_13, ↓zM_ob, p2, q2, zb_s, ↓zlet_s, zE_0, zE_1, zE_2, zE_3, zE_4, zE_5, zE_6, zE_7, zE_8, zE_9, zE_10, zE_11, zE_12, zE_13, zE_14, zE_neg, z1, if_false, zMs0 hM1, zup_s, Int32.le_refl, if_true]
            exact e
          · exact absurd d q1
        · exact absurd c p1
    · refine ⟨2, 0, 0, by omega, by omega, Or.inr ⟨by omega, 1, by omega, ?_⟩, fun _ => rfl, fun h' hM' => ?_⟩
      · simp (discharger := omega) only [zm90, ↓zo_12, ↓zLAz cr cA, zc130, if_pos c, zE_0, zE_1, zE_2, zE_3, zE_4, zE_5, zE_6, zE_7, zE_8, zE_9, zE_10, zE_11, zE_12, zE_13, zE_14, zE_neg, zc131, if_neg d, ↓zb_s, ↓zb_x]
        rfl
      · obtain ⟨p, p1, p2⟩ := zp142 hM' wA (x := a) a1 a2
        obtain ⟨q, q1, q2⟩ := zp141 (h := h') (x := r) r1 r2
        have hM1 := hM'.ws 0 (by decide) 2
        rcases p1 with ⟨rfl, -⟩ | ⟨rfl, p1⟩
        · rcases q1 with ⟨rfl, q1⟩ | ⟨rfl, -⟩
          · exact absurd q1 d
          · simp (discharger := omega) only [zm198, zm198_13, ↓zM_ob, p2, q2, zb_s, ↓zlet_s, zE_0, zE_1, zE_2, zE_3, zE_4, zE_5, zE_6, zE_7, zE_8, zE_9, zE_10, zE_11, zE_12, zE_13, zE_14, zE_neg, z1, if_false, zMs0 hM1, zup_s, if_true, z3]
        · exact absurd c p1
  · refine ⟨1, 0, 0, by omega, by omega, Or.inr ⟨by omega, 1, by omega, ?_⟩, fun _ => rfl, fun h' hM' => ?_⟩
    · simp (discharger := omega) only [zm90, ↓zo_12, ↓zLAz cr cA, zc130, if_neg c, ↓zb_x, if_true]
    · obtain ⟨p, p1, p2⟩ := zp142 hM' wA (x := a) a1 a2
      have hM1 := hM'.ws 0 (by decide) 1
      rcases p1 with ⟨rfl, p1⟩ | ⟨rfl, -⟩
      · exact absurd p1 c
      · simp (discharger := omega) only [zm198, zm198_13, ↓zM_ob, p2, zb_s, ↓zlet_s, zE_0, zE_1, zE_2, zE_3, zE_4, zE_5, zE_6, zE_7, zE_8, zE_9, zE_10, zE_11, zE_12, zE_13, zE_14, zE_neg, if_true, zMs0 hM1, zup_s, z2, if_false]
def zwoP (s : zS) (v a : Int) : Prop := s 3 a = v ∧ zmyV s a 0
/-- the first one behind, or -1 -/
def zwo (s : zS) (v st w : Int) : Prop := (w = -1 ∧ ¬ zxs (st + 1) (s 2 0) (zwoP s v)) ∨ (st < w ∧ w < s 2 0 ∧ zwoP s v w ∧ ¬ zxs (st + 1) w (zwoP s v))
theorem zwo_u {s : zS} {v st w w' : Int} (h : zwo s v st w) (h' : zwo s v st w') : w = w' := by
  rcases h with ⟨e, n⟩ | ⟨a1, a2, a3, a4⟩ <;> rcases h' with ⟨e', n'⟩ | ⟨b1, b2, b3, b4⟩
  · omega
  · exact absurd ⟨w', by omega, b2, b3⟩ n
  · exact absurd ⟨w, by omega, a2, a3⟩ n'
  · rcases Int.lt_trichotomy w w' with z | z | z
    · exact absurd ⟨w, by omega, z, a3⟩ b4
    · exact z
    · exact absurd ⟨w', by omega, z, b3⟩ a4
theorem zc93_15 {h : zH} {s : zS} (hR : zCr h) (hC : zCA h s) (hV : zCV h s) (hA : zWa s) (hK : zWk s) (hS : zWc s) (hD : zWd s) {v st : Int} (v1 : 0 ≤ v) (v2 : v < 4) (s1 : 0 ≤ st) (s2 : st < s 2 0) : ∃ w, zwo s v st w ∧ zm93_15 zN0 (some (12, 0)) (zE v) (zE (st + 1)) h = some (.inl (zE w), h) := by
  have hn := hA.1
  refine zloop (W := fun n i (_ : Unit) => zm93_15 n (some (12, 0)) (zE v) (zE i) h) (lo := st + 1) (N := s 2 0) (fun i _ => ¬ zxs (st + 1) i (zwoP s v)) (fun r => ∃ w, zwo s v st w ∧ r = some (.inl (zE w), h)) ?_ ?_ (s 2 0 - (st + 1)).toNat zN0 (st + 1) () (by omega) (by omega) (by unfold zN0; omega) zxs_n
  · intro n _ hb
    refine ⟨-1, Or.inl ⟨rfl, hb⟩, ?_⟩
    simp (discharger := omega) only [zm93_15, ↓zo_12, ↓zLAz hR hC, Int32.le_refl, if_true, zE_0, zE_1, zE_2, zE_3, zE_4, zE_5, zE_6, zE_7, zE_8, zE_9, zE_10, zE_11, zE_12, zE_13, zE_14, zE_neg]
  · intro n i _ h1 h2 hb
    have h3 : ¬ s 2 0 ≤ i := by omega
    have hi := (hA.2 i (by omega) h2).1
    by_cases e1 : s 3 i = v
    · obtain ⟨m, m1, m2⟩ := zc45 hR hC hV hA hK hS hD (a := i) (by omega) h2
      have mr := zmyV_r m1
      by_cases e2 : m = 0
      · subst e2
        refine Or.inl ⟨i, Or.inr ⟨by omega, h2, ⟨e1, m1⟩, hb⟩, ?_⟩
        simp (discharger := omega) only [zm93_15, ↓zo_12, ↓zo_0, ↓zLAz hR hC, ↓zLAg hR hC, zE_le, h3, if_false, zCa1 hC, zE_inj, if_pos e1, m2, ↓zb_s, zE_0, zE_1, zE_2, zE_3, zE_4, zE_5, zE_6, zE_7, zE_8, zE_9, zE_10, zE_11, zE_12, zE_13, zE_14, zE_neg, if_true, zCa0 hC]
      · refine Or.inr ⟨(), ?_, ?_⟩
        · rw [zxs_s h1]
          exact fun z => z.elim hb (fun z => e2 (zmyV_u m1 z.2))
        · simp (discharger := omega) only [zm93_15, zm93_37, ↓zo_12, ↓zo_0, ↓zLAz hR hC, ↓zLAg hR hC, zE_le, h3, if_false, zCa1 hC, zE_inj, if_pos e1, m2, ↓zb_s, zE_0, zE_1, zE_2, zE_3, zE_4, zE_5, zE_6, zE_7, zE_8, zE_9, zE_10, zE_11, zE_12, zE_13, zE_14, zE_neg, e2, ↓zlet_s, zE_add]
    · refine Or.inr ⟨(), ?_, ?_⟩
      · rw [zxs_s h1]
        exact fun z => z.elim hb (fun z => e1 z.1)
      · simp (discharger := omega) only [zm93_15, zm93_37, ↓zo_12, ↓zo_0, ↓zLAz hR hC, ↓zLAg hR hC, zE_le, h3, if_false, zCa1 hC, zE_inj, e1, zE_0, zE_1, zE_2, zE_3, zE_4, zE_5, zE_6, zE_7, zE_8, zE_9, zE_10, zE_11, zE_12, zE_13, zE_14, zE_neg, ↓zlet_s, zE_add]
theorem zp201_23 {h : zH} {s : zS} (hM : zMd h s) (hA : zWa s) (hK : zWk s) (hS : zWc s) (hD : zWd s) {v st : Int} (v1 : 0 ≤ v) (v2 : v < 4) (s1 : 0 ≤ st) (s2 : st < s 2 0) : ∃ w, zwo s v st w ∧ zm201_23 zN0 (some (13, 0)) (zE v) (zE st) (zE (-1)) (zE (s 2 0 - 1)) h = some (.inl (zE w), h) := by
  have hn := hA.1
  have hz := zloop0 (W := fun n i w => zm201_23 n (some (13, 0)) (zE v) (zE st) (zE w) (zE (s 2 0 - 1 - i)) h) (N := s 2 0 - 1 - st) (fun i w => (w = -1 ∧ ¬ zxs (s 2 0 - i) (s 2 0) (zwoP s v)) ∨ (s 2 0 - i ≤ w ∧ w < s 2 0 ∧ zwoP s v w ∧ ¬ zxs (s 2 0 - i) w (zwoP s v))) (fun r => ∃ w, zwo s v st w ∧ r = some (.inl (zE w), h)) (-1) (Or.inl ⟨rfl, by rw [show s 2 0 - 0 = s 2 0 by omega]; exact zxs_n⟩) (by omega) (by omega) ?_ ?_
  · rw [show s 2 0 - 1 - 0 = s 2 0 - 1 by omega] at hz
    exact hz
  · intro n w hw
    rw [show s 2 0 - (s 2 0 - 1 - st) = st + 1 by omega] at hw
    refine ⟨w, hw.imp id (fun z => ⟨by omega, z.2⟩), ?_⟩
    rw [show s 2 0 - 1 - (s 2 0 - 1 - st) = st by omega]
    simp (discharger := omega) only [zm201_23, Int32.le_refl, if_true]
  · intro n i w h1 h2 hw
    have h3 : ¬ s 2 0 - 1 - i ≤ st := by omega
    have hi := (hA.2 (s 2 0 - 1 - i) (by omega) (by omega)).1
    have e0 : ¬ st = -1 := by omega
    have ea : s 2 0 - (i + 1) = s 2 0 - 1 - i := by omega
    have wr : -1 ≤ w ∧ w < s 2 0 := by rcases hw with ⟨e, -⟩ | ⟨a, b, -⟩ <;> omega
    have stay : ¬ zwoP s v (s 2 0 - 1 - i) → (w = -1 ∧ ¬ zxs (s 2 0 - (i + 1)) (s 2 0) (zwoP s v)) ∨ (s 2 0 - (i + 1) ≤ w ∧ w < s 2 0 ∧ zwoP s v w ∧ ¬ zxs (s 2 0 - (i + 1)) w (zwoP s v)) := by
      intro q
      rw [ea]
      have ext : ∀ hi, zxs (s 2 0 - 1 - i) hi (zwoP s v) → zxs (s 2 0 - i) hi (zwoP s v) := by
        rintro hi ⟨a, b1, b2, b3⟩
        by_cases e : a = s 2 0 - 1 - i
        · subst e; exact absurd b3 q
        · exact ⟨a, by omega, b2, b3⟩
      rcases hw with ⟨e, n⟩ | ⟨a, b, c, d⟩
      · exact Or.inl ⟨e, fun z => n (ext _ z)⟩
      · exact Or.inr ⟨by omega, b, c, fun z => d (ext _ z)⟩
    by_cases e1 : s 3 (s 2 0 - 1 - i) = v
    · obtain ⟨m, m1, m2⟩ := zp151 hM hA hK hS hD (a := s 2 0 - 1 - i) (by omega) (by omega)
      have mr := zmyV_r m1
      by_cases e2 : m = 0
      · subst e2
        refine Or.inr ⟨s 2 0 - 1 - i, Or.inr ⟨by omega, by omega, ⟨e1, m1⟩, by rw [ea]; exact zxs_n⟩, ?_⟩
        simp (discharger := omega) only [zm201_23, zm201_42, ↓zM_ob, ↓zMi3 hM, zE_le, h3, if_false, zE_inj, e0, if_pos e1, m2, ↓zb_s, zE_0, zE_1, zE_2, zE_3, zE_4, zE_5, zE_6, zE_7, zE_8, zE_9, zE_10, zE_11, zE_12, zE_13, zE_14, zE_neg, if_true, ↓zlet_s, zE_add]
        rw [show s 2 0 - 1 - i + -1 = s 2 0 - 1 - (i + 1) by omega]
      · refine Or.inr ⟨w, stay (fun z => e2 (zmyV_u m1 z.2)), ?_⟩
        simp (discharger := omega) only [zm201_23, zm201_42, ↓zM_ob, ↓zMi3 hM, zE_le, h3, if_false, zE_inj, e0, if_pos e1, m2, ↓zb_s, zE_0, zE_1, zE_2, zE_3, zE_4, zE_5, zE_6, zE_7, zE_8, zE_9, zE_10, zE_11, zE_12, zE_13, zE_14, zE_neg, e2, ↓zlet_s, zE_add]
        rw [show s 2 0 - 1 - i + -1 = s 2 0 - 1 - (i + 1) by omega]
    · refine Or.inr ⟨w, stay (fun z => e1 z.1), ?_⟩
      simp (discharger := omega) only [zm201_23, zm201_42, ↓zM_ob, ↓zMi3 hM, zE_le, h3, if_false, zE_inj, e0, e1, zE_0, zE_1, zE_2, zE_3, zE_4, zE_5, zE_6, zE_7, zE_8, zE_9, zE_10, zE_11, zE_12, zE_13, zE_14, zE_neg, ↓zlet_s, zE_add]
      rw [show s 2 0 - 1 - i + -1 = s 2 0 - 1 - (i + 1) by omega]
