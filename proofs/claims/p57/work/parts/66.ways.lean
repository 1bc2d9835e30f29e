set_option maxRecDepth 16384
/-! seers, the way out: both sides. -/
def zsrP (s : zS) (a r c : Int) : Prop := zrgf c = r ∧ zsnf s (s 3 a) c = a
theorem zcnt_1 {P : Int → Prop} {i : Int} (h : 0 ≤ i) : zcnt P (i + 1).toNat = zcnt P i.toNat + zcn1 (P i) := by
  rw [show (i + 1).toNat = i.toNat + 1 by omega]
  show zcnt P i.toNat + zcn1 (P (i.toNat : Int)) = _
  rw [Int.toNat_of_nonneg h]
theorem zc90_19 {h : zH} {s : zS} (hR : zCr h) (hA' : zCA h s) (hV : zCV h s) (hKk : zCK h s) (hA : zWa s) (hK : zWk s) (hC : zWc s) {a r : Int} (a1 : 0 ≤ a) (a2 : a < s 2 0) (r1 : 0 ≤ r) (r2 : r ≤ 2) : zm90_19 zN0 (some (12, 0)) (zE r) (some (0, a.toNat)) (zE 0) (zE 0) h = some (.inl (zE (zcnt (zsrP s a r) 200)), h) := by
  have hn := hA.1
  have hv := (hA.2 a a1 a2).1
  refine zloop0 (W := fun n i t => zm90_19 n (some (12, 0)) (zE r) (some (0, a.toNat)) (zE t) (zE i) h) (N := 200) (fun i t => t = zcnt (zsrP s a r) i.toNat) (fun x => x = some (.inl (zE (zcnt (zsrP s a r) 200)), h)) 0 rfl (by decide) (by decide) ?_ ?_
  · intro n t ht
    subst ht
    simp only [zm90_19, zE_200, Int32.le_refl, if_true]
    rfl
  · intro n i t h1 h2 ht
    have h3 : ¬ 200 ≤ i := by omega
    have hg := zrgf_r i
    refine Or.inr ⟨t + zcn1 (zsrP s a r i), by rw [zcnt_1 h1, ht], ?_⟩
    by_cases e1 : zrgf i = r
    · have e2 := zc89 hR hV hKk hA hK hC (v := s 3 a) (c := i) (by omega) (by omega) h1 h2
      obtain ⟨q1, q2⟩ := zsnf_r hK hC (v := s 3 a) (c := i) (by omega) (by omega) h1 h2
      have e3 : (zrf 0 (zsnf s (s 3 a) i) = some (0, a.toNat)) = (zsnf s (s 3 a) i = a) := by rw [← zrf_s (k := 0) a1, zrf_i q1 (by omega)]
      by_cases e4 : zsnf s (s 3 a) i = a
      · rw [zcn1_t (show zsrP s a r i from ⟨e1, e4⟩)]
        simp (discharger := omega) only [zm90_19, zm90_34, zE_200, zE_le, h3, if_false, zc135, ↓zb_s, zE_inj, e1, if_true, ↓zo_0, ↓zo_12, zCa1 hA', e2, e3, if_pos e4, ↓zlet_s, zE_1, zE_add]
      · rw [zcn1_f (show ¬ zsrP s a r i from fun z => e4 z.2), Int.add_zero]
        simp (discharger := omega) only [zm90_19, zm90_34, zE_200, zE_le, h3, if_false, zc135, ↓zb_s, zE_inj, e1, if_true, ↓zo_0, ↓zo_12, zCa1 hA', e2, e3, e4, ↓zlet_s, zE_1, zE_add]
    · rw [zcn1_f (show ¬ zsrP s a r i from fun z => e1 z.1), Int.add_zero]
      simp (discharger := omega) only [zm90_19, zm90_34, zE_200, zE_le, h3, if_false, zc135, ↓zb_s, zE_inj, e1, ↓zlet_s, zE_1, zE_add]
def zwoP (s : zS) (v a : Int) : Prop := s 3 a = v ∧ zmyV s a 0
/-- the first one behind, or -1 -/
def zwo (s : zS) (v st w : Int) : Prop := (w = -1 ∧ ¬ zxs (st + 1) (s 2 0) (zwoP s v)) ∨ (st < w ∧ w < s 2 0 ∧ zwoP s v w ∧ ¬ zxs (st + 1) w (zwoP s v))
theorem zwo_u {s : zS} {v st w w' : Int} (h : zwo s v st w) (h' : zwo s v st w') : w = w' := by
  rcases h with ⟨e, n⟩ | ⟨a1, a2, a3, a4⟩ <;> rcases h' with ⟨e', n'⟩ | ⟨b1, b2, b3, b4⟩
  · omega
  · exact absurd ⟨w', by omega, b2, b3⟩ n
  · exact absurd ⟨w, by omega, a2, a3⟩ n'
  · rcases Int.lt_trichotomy w w' with z | z | z
    · exact absurd ⟨w, by omega, z, a3⟩ b4
    · exact z
    · exact absurd ⟨w', by omega, z, b3⟩ a4
theorem zc93_15 {h : zH} {s : zS} (hR : zCr h) (hC : zCA h s) (hV : zCV h s) (hA : zWa s) (hK : zWk s) (hS : zWc s) (hD : zWd s) {v st : Int} (v1 : 0 ≤ v) (v2 : v < 4) (s1 : 0 ≤ st) (s2 : st < s 2 0) : ∃ w, zwo s v st w ∧ zm93_15 zN0 (some (12, 0)) (zE v) (zE (st + 1)) h = some (.inl (zE w), h) := by
  have hn := hA.1
  refine zloop (W := fun n i (_ : Unit) => zm93_15 n (some (12, 0)) (zE v) (zE i) h) (lo := st + 1) (N := s 2 0) (fun i _ => ¬ zxs (st + 1) i (zwoP s v)) (fun r => ∃ w, zwo s v st w ∧ r = some (.inl (zE w), h)) ?_ ?_ (s 2 0 - (st + 1)).toNat zN0 (st + 1) () (by omega) (by omega) (by unfold zN0; omega) zxs_n
  · intro n _ hb
    refine ⟨-1, Or.inl ⟨rfl, hb⟩, ?_⟩
    simp (discharger := omega) only [zm93_15, ↓zo_12, ↓zLAz hR hC, Int32.le_refl, if_true, zE_0, zE_1, zE_2, zE_3, zE_4, zE_5, zE_6, zE_7, zE_8, zE_9, zE_10, zE_11, zE_12, zE_13, zE_14, zE_neg]
  · intro n i _ h1 h2 hb
    have h3 : ¬ s 2 0 ≤ i := by omega
    have hi := (hA.2 i (by omega) h2).1
    by_cases e1 : s 3 i = v
    · obtain ⟨m, m1, m2⟩ := zc45 hR hC hV hA hK hS hD (a := i) (by omega) h2
      have mr := zmyV_r m1
      by_cases e2 : m = 0
      · subst e2
        refine Or.inl ⟨i, Or.inr ⟨by omega, h2, ⟨e1, m1⟩, hb⟩, ?_⟩
        simp (discharger := omega) only [zm93_15, ↓zo_12, ↓zo_0, ↓zLAz hR hC, ↓zLAg hR hC, zE_le, h3, if_false, zCa1 hC, zE_inj, if_pos e1, m2, ↓zb_s, zE_0, zE_1, zE_2, zE_3, zE_4, zE_5, zE_6, zE_7, zE_8, zE_9, zE_10, zE_11, zE_12, zE_13, zE_14, zE_neg, if_true, zCa0 hC]
      · refine Or.inr ⟨(), ?_, ?_⟩
        · rw [zxs_s h1]
          exact fun z => z.elim hb (fun z => e2 (zmyV_u m1 z.2))
        · simp (discharger := omega) only [zm93_15, zm93_37, ↓zo_12, ↓zo_0, ↓zLAz hR hC, ↓zLAg hR hC, zE_le, h3, if_false, zCa1 hC, zE_inj, if_pos e1, m2, ↓zb_s, zE_0, zE_1, zE_2, zE_3, zE_4, zE_5, zE_6, zE_7, zE_8, zE_9, zE_10, zE_11, zE_12, zE_13, zE_14, zE_neg, e2, ↓zlet_s, zE_add]
    · refine Or.inr ⟨(), ?_, ?_⟩
      · rw [zxs_s h1]
        exact fun z => z.elim hb (fun z => e1 z.1)
      · simp (discharger := omega) only [zm93_15, zm93_37, ↓zo_12, ↓zo_0, ↓zLAz hR hC, ↓zLAg hR hC, zE_le, h3, if_false, zCa1 hC, zE_inj, e1, zE_0, zE_1, zE_2, zE_3, zE_4, zE_5, zE_6, zE_7, zE_8, zE_9, zE_10, zE_11, zE_12, zE_13, zE_14, zE_neg, ↓zlet_s, zE_add]
