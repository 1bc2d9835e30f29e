set_option maxRecDepth 16384
/-! What bars a step: who is under way, freezes, sessions that go on. -/
def zrlI (s : zS) (a v : Int) : Prop := (v = -1 ∧ ¬ zxs 0 (s 30 0) (zrlP s a)) ∨ ((0 ≤ v ∧ v < s 30 0) ∧ zrlP s a v)
theorem zrlI_u {s : zS} (hq : zWq s) {a v w : Int} (h : zrlI s a v) (h' : zrlI s a w) : v = w := by
  rcases h with ⟨h1, h2⟩ | ⟨h1, h2⟩
  · rcases h' with ⟨h3, h4⟩ | ⟨h3, h4⟩
    · omega
    · exact absurd ⟨w, h3.1, h3.2, h4⟩ h2
  · rcases h' with ⟨h3, h4⟩ | ⟨h3, h4⟩
    · exact absurd ⟨v, h1.1, h1.2, h2⟩ h4
    · rcases Int.lt_trichotomy v w with k | k | k
      · rcases hq.1 v w h1.1 k h3.2 (h2.1.trans h4.1.symm) with z | z
        · exact absurd z h2.2
        · exact absurd z h4.2
      · exact k
      · rcases hq.1 w v h3.1 k h1.2 (h4.1.trans h2.1.symm) with z | z
        · exact absurd z h4.2
        · exact absurd z h2.2
theorem zc53i {h : zH} {s : zS} (hR : zCr h) (hC : zCR h s) (hW : zWr s) {a : Int} (a0 : 0 ≤ a) : ∃ v, zrlI s a v ∧ zm53 (some (12, 0)) (some (0, a.toNat)) h = some (.inl (zrf 5 v), h) := by
  have hn := hW.1
  have z1 : ¬ zE 1 = zE 0 := by decide
  rw [zm53, zE_0]
  refine zloop0 (W := fun n i (_ : Unit) => zm53_2 n (some (12, 0)) (some (0, a.toNat)) (zE i) h) (N := s 30 0) (fun i _ => ¬ zxs 0 i (zrlP s a)) (fun r => ∃ v, zrlI s a v ∧ r = some (.inl (zrf 5 v), h)) () zxs_n hn.1 (by omega) ?_ ?_
  · intro n _ hb
    refine ⟨-1, Or.inl ⟨rfl, hb⟩, ?_⟩
    simp (discharger := omega) only [zm53_2, ↓zo_12, ↓zLRz hR hC, Int32.le_refl, if_true, zrf_n]
  · intro n i _ h1 h2 hb
    have h3 : ¬ s 30 0 ≤ i := by omega
    have hw := (hW.2.2 i h1 h2).1
    have he : ((some (0, (s 31 i).toNat) : zq) = some (0, a.toNat)) = (s 31 i = a) := by
      rw [← zrf_s (k := 0) hw.1, ← zrf_s (k := 0) a0, zrf_i (by omega) (by omega)]
    have go : ¬ zrlP s a i → ¬ zxs 0 (i + 1) (zrlP s a) := fun q => by
      rw [zxs_s h1]
      exact fun z => z.elim hb q
    by_cases e1 : s 31 i = a
    · have he2 : ((some (0, (s 31 i).toNat) : zq) = some (0, a.toNat)) = True := he.trans (eq_true e1)
      obtain ⟨b, b1, b2⟩ := zc10 hC hW h1 h2
      rcases b1 with ⟨rfl, b1⟩ | ⟨rfl, b1⟩
      · refine Or.inr ⟨(), go fun z => z.2 b1, ?_⟩
        simp (discharger := omega) only [zm53_2, zm53_22, ↓zo_12, ↓zLRz hR hC, zE_le, h3, if_false, ↓zLRg hR hC, ↓zo_5, zCrA hC, he2, if_true, b2, ↓zb_s, zE_0, zE_1, zE_2, zE_3, zE_4, zE_5, zE_6, zE_7, zE_8, zE_9, zE_10, zE_11, zE_12, zE_13, zE_14, zE_neg, z1, ↓zlet_s, zE_add]
      · refine Or.inl ⟨i, Or.inr ⟨⟨h1, h2⟩, e1, b1⟩, ?_⟩
        rw [zrf_s h1]
        simp (discharger := omega) only [zm53_2, ↓zo_12, ↓zLRz hR hC, zE_le, h3, if_false, ↓zLRg hR hC, ↓zo_5, zCrA hC, he2, if_true, b2, ↓zb_s, zE_0, zE_1, zE_2, zE_3, zE_4, zE_5, zE_6, zE_7, zE_8, zE_9, zE_10, zE_11, zE_12, zE_13, zE_14, zE_neg]
    · have he2 : ((some (0, (s 31 i).toNat) : zq) = some (0, a.toNat)) = False := he.trans (eq_false e1)
      refine Or.inr ⟨(), go fun z => e1 z.1, ?_⟩
      simp (discharger := omega) only [zm53_2, zm53_22, ↓zo_12, ↓zLRz hR hC, zE_le, h3, if_false, ↓zLRg hR hC, ↓zo_5, zCrA hC, he2, zE_0, zE_1, zE_2, zE_3, zE_4, zE_5, zE_6, zE_7, zE_8, zE_9, zE_10, zE_11, zE_12, zE_13, zE_14, zE_neg, ↓zlet_s, zE_add]
/-- a freeze holds for an artefact -/
def zfzh (s : zS) (a x : Int) : Prop := s 55 x = 3 ∨ (s 10 a = 0 ∧ (s 55 x = 2 ∨ s 11 a ≠ 0))
def zfzP (s : zS) (a g x : Int) : Prop := s 52 x = g ∧ (s 53 x ≤ s 1 0 ∧ s 1 0 ≤ s 54 x) ∧ zfzh s a x
def zfz (s : zS) (r g : Int) : Prop := s 38 r = 0 ∧ zxs 0 (s 51 0) (zfzP s (s 31 r) g)
theorem zc67 {h : zH} {s : zS} (hR : zCr h) (hS : zCs h s) (hA' : zCA h s) (hC : zCR h s) (hF : zCZ h s) (hA : zWa s) (hD : zWd s) (hW : zWr s) (hZ : zWz s) {r g : Int} (r0 : 0 ≤ r) (r1 : r < s 30 0) (g0 : 0 ≤ g) (g1 : g < 3) : ∃ b, zbo b (zfz s r g) ∧ zm67 (some (12, 0)) (some (5, r.toNat)) (zE g) h = some (.inl (zE b), h) := by
  have hn := hZ.1
  refine ⟨0, zbo_0 (fun z => by
    obtain ⟨-, x, x0, x1, -⟩ := z
    omega), ?_⟩
  have h51 : s 51 0 ≤ 0 := hn.2
  by_cases e : s 38 r = 0
  · simp (discharger := omega) only [zm67, ↓zo_5, zCr6_ hC, e, zE_0, if_true, ↓zo_12, ↓zLZz hR hF, zE_le, h51]
  · have w := (hW.2.2 r r0 r1).2.2.2.2.2.2.2.2.1
    simp (discharger := omega) only [zm67, ↓zo_5, zCr6_ hC, zE_0, zE_inj, e, if_false]
/-- every session of a service in a ring is of what is stable there -/
def zdrN (s : zS) (v g c : Int) : Prop := zrgf c = g ∧ s 18 (200 * v + c) ≠ -1 ∧ s 18 (200 * v + c) ≠ s 12 (3 * v + g)
def zdrA (s : zS) (v g a : Int) : Prop := s 3 a = v ∧ a ≠ s 12 (3 * v + g) ∧ 0 < zss s a g
theorem zdr_e {s : zS} (hC : zWc s) {v g : Int} (v0 : 0 ≤ v) (v1 : v < 4) : zxs 0 (s 2 0) (zdrA s v g) ↔ zxs 0 200 (zdrN s v g) := by
  constructor
  · rintro ⟨a, a0, a1, a2, a3, a4⟩
    obtain ⟨c, c0, c1, c2, c3⟩ := (zcnt_p 800).mp a4
    obtain ⟨k1, k2, k3⟩ := hC.2 c c0 c1
    have k4 := k3 (by omega)
    rw [c2, a2] at k4
    have e : c = 200 * v + c % 200 := by omega
    refine ⟨c % 200, by omega, by omega, (zrgf_e.mp c3).symm, ?_, ?_⟩
    · rw [← e, c2]; omega
    · rw [← e, c2]; exact a3
  · rintro ⟨c, c0, c1, c2, c3, c4⟩
    obtain ⟨k1, k2, k3⟩ := hC.2 (200 * v + c) (by omega) (by omega)
    refine ⟨s 18 (200 * v + c), by omega, k2, ?_, c4, (zcnt_p 800).mpr ⟨200 * v + c, by omega, by omega, rfl, ?_⟩⟩
    · rw [k3 c3]; omega
    · rw [show (200 * v + c) % 200 = c by omega]
      exact zrgf_e.mpr c2.symm
theorem zc72 {h : zH} {s : zS} (hR : zCr h) (hA' : zCA h s) (hV : zCV h s) (hK' : zCK h s) (hA : zWa s) (hK : zWk s) (hC : zWc s) {v g : Int} (v0 : 0 ≤ v) (v1 : v < 4) (g0 : 0 ≤ g) (g1 : g < 3) : ∃ b, zbo b (¬ zxs 0 200 (zdrN s v g)) ∧ zm72 (some (12, 0)) (zE v) (zE g) h = some (.inl (zE b), h) := by
  have hn := hA.1
  obtain ⟨k1, -⟩ := hK (3 * v + g) (by omega) (by omega)
  have hst : zm72 (some (12, 0)) (zE v) (zE g) h = zm72_11 zN0 (some (12, 0)) (zE v) (zE g) (zrf 0 (s 12 (3 * v + g))) (zE 0) h := by
    rw [zm72, zo_12, zLVa hR hV v0 v1, zo_9, zLKa hV v0 v1 g0 g1, zo_10, zlet_s, zCk0 hK' (by omega) (by omega), zE_0]
  rw [hst]
  refine zloop0 (W := fun n i (_ : Unit) => zm72_11 n (some (12, 0)) (zE v) (zE g) (zrf 0 (s 12 (3 * v + g))) (zE i) h) (N := s 2 0) (fun i _ => ¬ zxs 0 i (zdrA s v g)) (fun q => ∃ b, zbo b (¬ zxs 0 200 (zdrN s v g)) ∧ q = some (.inl (zE b), h)) () zxs_n hn.1 (by omega) ?_ ?_
  · intro n _ hb
    refine ⟨1, zbo_1 fun z => hb ((zdr_e hC v0 v1).mpr z), ?_⟩
    simp (discharger := omega) only [zm72_11, ↓zo_12, ↓zLAz hR hA', Int32.le_refl, if_true, zE_0, zE_1, zE_2, zE_3, zE_4, zE_5, zE_6, zE_7, zE_8, zE_9, zE_10, zE_11, zE_12, zE_13, zE_14, zE_neg]
  · intro n i _ h1 h2 hb
    have h3 : ¬ s 2 0 ≤ i := by omega
    have hw := (hA.2 i h1 h2).1
    have hs := zss_r s i g
    have go : ¬ zdrA s v g i → ¬ zxs 0 (i + 1) (zdrA s v g) := fun q => by
      rw [zxs_s h1]
      exact fun z => z.elim hb q
    have he : ((some (0, i.toNat) : zq) = zrf 0 (s 12 (3 * v + g))) = (i = s 12 (3 * v + g)) := by
      rw [← zrf_s (k := 0) h1, zrf_i (by omega) (by omega)]
    by_cases e1 : s 3 i = v
    · by_cases e2 : i = s 12 (3 * v + g)
      · have he2 := he.trans (eq_true e2)
        refine Or.inr ⟨(), go fun z => z.2.1 e2, ?_⟩
        simp (discharger := omega) only [zm72_11, zm72_36, ↓zo_12, ↓zLAz hR hA', zE_le, h3, if_false, ↓zLAg hR hA', ↓zo_0, zCa1 hA', e1, if_true, he2, zE_0, zE_1, zE_2, zE_3, zE_4, zE_5, zE_6, zE_7, zE_8, zE_9, zE_10, zE_11, zE_12, zE_13, zE_14, zE_neg, ↓zlet_s, zE_add]
      · have he2 := he.trans (eq_false e2)
        have e3 : ∀ f : Int32 → zRs Int32, zri (zr h 0 i.toNat 11) (zE g) h f = f (zE (zss s i g)) := fun f => zri_s (zCa11 hA' h1 h2) rfl (zCaL hA' h1 h2) g0 (by omega) (by omega) (zCaS hA' h1 h2 g g0 g1)
        by_cases e4 : zss s i g ≤ 0
        · refine Or.inr ⟨(), go fun z => by have := z.2.2; omega, ?_⟩
          simp (discharger := omega) only [zm72_11, zm72_36, ↓zo_12, ↓zLAz hR hA', zE_le, h3, if_false, ↓zLAg hR hA', ↓zo_0, zCa1 hA', e1, if_true, he2, ↓e3, zE_0, zE_1, zE_2, zE_3, zE_4, zE_5, zE_6, zE_7, zE_8, zE_9, zE_10, zE_11, zE_12, zE_13, zE_14, zE_neg, e4, ↓zlet_s, zE_add]
        · refine Or.inl ⟨0, zbo_0 fun z => z ((zdr_e hC v0 v1).mp ⟨i, h1, h2, e1, e2, by omega⟩), ?_⟩
          simp (discharger := omega) only [zm72_11, zm72_36, ↓zo_12, ↓zLAz hR hA', zE_le, h3, if_false, ↓zLAg hR hA', ↓zo_0, zCa1 hA', e1, if_true, he2, ↓e3, zE_0, zE_1, zE_2, zE_3, zE_4, zE_5, zE_6, zE_7, zE_8, zE_9, zE_10, zE_11, zE_12, zE_13, zE_14, zE_neg, e4]
    · refine Or.inr ⟨(), go fun z => e1 z.1, ?_⟩
      simp (discharger := omega) only [zm72_11, zm72_36, ↓zo_12, ↓zLAz hR hA', zE_le, h3, if_false, ↓zLAg hR hA', ↓zo_0, zCa1 hA', zE_inj, e1, zE_0, zE_1, zE_2, zE_3, zE_4, zE_5, zE_6, zE_7, zE_8, zE_9, zE_10, zE_11, zE_12, zE_13, zE_14, zE_neg, ↓zlet_s, zE_add]
