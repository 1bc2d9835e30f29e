set_option maxRecDepth 16384
/-! Who sees what: both sides. -/
theorem zE_div {a c : Int} (h1 : 0 ≤ a) (h2 : a < 2147483648) (h3 : 0 < c) (h4 : c < 2147483648) : zE a / zE c = zE (a / c) := by
  have e1 : Int32.minValue.toInt = -2147483648 := by decide
  have e2 : Int32.maxValue.toInt = 2147483647 := by decide
  have h := Int32.ofInt_tdiv (a := a) (b := c) (by omega) (by omega) (by omega) (by omega)
  rw [Int.tdiv_eq_ediv_of_nonneg h1] at h
  exact h.symm
theorem zE_rem {a c : Int} (h1 : 0 ≤ a) (h2 : a < 2147483648) (h3 : 0 < c) (h4 : c < 2147483648) : zE a - zE a / zE c * zE c = zE (a % c) := by
  rw [zE_div h1 h2 h3 h4, zE_mul, zE_sub, Int.emod_def, Int.mul_comm]
def zrgf (c : Int) : Int := if c % 10 = 0 then 0 else if c % 10 ≤ 3 then 1 else 2
theorem zrgf_r (c : Int) : 0 ≤ zrgf c ∧ zrgf c ≤ 2 := by
  unfold zrgf
  split
  · omega
  · split <;> omega
theorem zrgf_e {c r : Int} : zrg c r ↔ r = zrgf c := by
  unfold zrg zrgf
  split
  · omega
  · split <;> omega
theorem zc135 {h : zH} {c : Int} (h1 : 0 ≤ c) (h2 : c < 200) : zm135 (zE c) h = some (.inl (zE (zrgf c)), h) := by
  unfold zrgf
  simp (discharger := omega) only [zm135, zE_0, zE_1, zE_2, zE_3, zE_4, zE_5, zE_6, zE_7, zE_8, zE_9, zE_10, zE_11, zE_12, zE_13, zE_14, zE_neg, zE_rem, ↓zlet_s, zE_inj, zE_lt]
  by_cases e1 : c % 10 = 0
  · rw [if_pos e1, if_pos e1]
  · rw [if_neg e1, if_neg e1]
    by_cases e2 : c % 10 ≤ 3
    · rw [if_neg (by omega), if_pos e2]
    · rw [if_pos (by omega), if_neg e2]
theorem zp144 {h : zH} {c : Int} (h1 : 0 ≤ c) (h2 : c < 200) : zm144 (zE c) h = some (.inl (zE (zrgf c)), h) := by
  unfold zrgf
  simp (discharger := omega) only [zm144, zE_0, zE_1, zE_2, zE_3, zE_4, zE_5, zE_6, zE_7, zE_8, zE_9, zE_10, zE_11, zE_12, zE_13, zE_14, zE_neg, zE_rem, ↓zlet_s, zE_inj, zE_le]
  by_cases e1 : c % 10 = 0
  · rw [if_pos e1, if_pos e1]
  · rw [if_neg e1, if_neg e1]
    by_cases e2 : c % 10 ≤ 3
    · rw [if_neg (by omega), if_pos e2]
    · rw [if_pos (by omega), if_neg e2]
/-- what a customer sees -/
def zsnf (s : zS) (v c : Int) : Int := if s 18 (200 * v + c) = -1 then (if (37 * c + 11 * v) % 100 < s 14 (3 * v + zrgf c) then s 13 (3 * v + zrgf c) else s 12 (3 * v + zrgf c)) else s 18 (200 * v + c)
theorem zsnf_r {s : zS} (hK : zWk s) (hC : zWc s) {v c : Int} (v1 : 0 ≤ v) (v2 : v < 4) (c1 : 0 ≤ c) (c2 : c < 200) : -1 ≤ zsnf s v c ∧ zsnf s v c < s 2 0 := by
  have hr := zrgf_r c
  obtain ⟨a, b, -⟩ := hK (3 * v + zrgf c) (by omega) (by omega)
  obtain ⟨d, e, -⟩ := hC.2 (200 * v + c) (by omega) (by omega)
  unfold zsnf
  split
  · split
    · exact b
    · exact a
  · exact ⟨d, e⟩
theorem zc89 {h : zH} {s : zS} (hR : zCr h) (hV : zCV h s) (hKk : zCK h s) (hA : zWa s) (hK : zWk s) (hC : zWc s) {v c : Int} (v1 : 0 ≤ v) (v2 : v < 4) (c1 : 0 ≤ c) (c2 : c < 200) : zm89 (some (12, 0)) (zE v) (zE c) h = some (.inl (zrf 0 (zsnf s v c)), h) := by
  have hn := hA.1
  have hr := zrgf_r c
  obtain ⟨a, b, sh, -⟩ := hK (3 * v + zrgf c) (by omega) (by omega)
  obtain ⟨d, e, -⟩ := hC.2 (200 * v + c) (by omega) (by omega)
  by_cases e1 : s 18 (200 * v + c) = -1
  · have e9 : (zrf 0 (s 18 (200 * v + c)) = none) = True := by rw [zrf_z d]; exact eq_true e1
    have e37 : (37 : Int32) = zE 37 := zE_37
    by_cases e2 : (37 * c + 11 * v) % 100 < s 14 (3 * v + zrgf c)
    · have e3 : ¬ s 14 (3 * v + zrgf c) ≤ (37 * c + 11 * v) % 100 := by omega
      simp (discharger := omega) only [zm89, ↓zo_12, ↓zo_9, ↓zLVa hR hV, ↓zLSa hV, e9, if_true, zc135, ↓zb_s, ↓zLKa hV, e37, zE_11, zE_100, zE_mul, zE_add, zE_rem, ↓zlet_s, ↓zo_10, zCk2 hKk, zE_le, e3, if_false, zCk1 hKk]
      unfold zsnf
      rw [if_pos e1, if_pos e2]
    · have e3 : s 14 (3 * v + zrgf c) ≤ (37 * c + 11 * v) % 100 := by omega
      simp (discharger := omega) only [zm89, ↓zo_12, ↓zo_9, ↓zLVa hR hV, ↓zLSa hV, e9, if_true, zc135, ↓zb_s, ↓zLKa hV, e37, zE_11, zE_100, zE_mul, zE_add, zE_rem, ↓zlet_s, ↓zo_10, zCk2 hKk, zE_le, e3, zCk0 hKk]
      unfold zsnf
      rw [if_pos e1, if_neg e2]
  · have e9 : (zrf 0 (s 18 (200 * v + c)) = none) = False := by rw [zrf_z d]; exact eq_false e1
    simp (discharger := omega) only [zm89, ↓zo_12, ↓zo_9, ↓zLVa hR hV, ↓zLSa hV, e9, if_false]
    unfold zsnf
    rw [if_neg e1]
theorem zp195 {h : zH} {s : zS} (hM : zMd h s) (hA : zWa s) (hK : zWk s) (hC : zWc s) {v c : Int} (v1 : 0 ≤ v) (v2 : v < 4) (c1 : 0 ≤ c) (c2 : c < 200) : zm195 (some (13, 0)) (zE v) (zE c) h = some (.inl (zE (zsnf s v c)), h) := by
  have hn := hA.1
  have hr := zrgf_r c
  obtain ⟨a, b, sh, sb, -⟩ := hK (3 * v + zrgf c) (by omega) (by omega)
  obtain ⟨d, e, -⟩ := hC.2 (200 * v + c) (by omega) (by omega)
  have e37 : (37 : Int32) = zE 37 := zE_37
  by_cases e1 : s 18 (200 * v + c) = -1
  · by_cases e4 : s 13 (3 * v + zrgf c) = -1
    · have e5 := sb.mp e4
      simp (discharger := omega) only [zm195, zm195_48, ↓zM_ob, ↓zri_m200, ↓zMi18 hM, zp144, ↓zb_s, ↓zlet_s, e37, zE_11, zE_100, zE_3, zE_mul, zE_add, zE_rem, zE_1, zE_neg, zE_inj, e1, if_true, ↓zMi13 hM, ↓zMi12 hM, e4]
      unfold zsnf
      rw [if_pos e1, if_neg (by omega)]
    · by_cases e2 : (37 * c + 11 * v) % 100 < s 14 (3 * v + zrgf c)
      · have e3 : ¬ s 14 (3 * v + zrgf c) ≤ (37 * c + 11 * v) % 100 := by omega
        simp (discharger := omega) only [zm195, zm195_48, ↓zM_ob, ↓zri_m200, ↓zMi18 hM, zp144, ↓zb_s, ↓zlet_s, e37, zE_11, zE_100, zE_3, zE_mul, zE_add, zE_rem, zE_1, zE_neg, zE_inj, e1, if_true, ↓zMi13 hM, ↓zMi14 hM, zE_le, e4, e3, if_false]
        unfold zsnf
        rw [if_pos e1, if_pos e2]
      · have e3 : s 14 (3 * v + zrgf c) ≤ (37 * c + 11 * v) % 100 := by omega
        simp (discharger := omega) only [zm195, zm195_48, ↓zM_ob, ↓zri_m200, ↓zMi18 hM, zp144, ↓zb_s, ↓zlet_s, e37, zE_11, zE_100, zE_3, zE_mul, zE_add, zE_rem, zE_1, zE_neg, zE_inj, e1, if_true, ↓zMi13 hM, ↓zMi14 hM, ↓zMi12 hM, zE_le, e4, e3, if_false]
        unfold zsnf
        rw [if_pos e1, if_neg e2]
  · simp (discharger := omega) only [zm195, ↓zM_ob, ↓zri_m200, ↓zMi18 hM, zp144, ↓zb_s, ↓zlet_s, zE_1, zE_neg, zE_inj, e1, if_false]
    unfold zsnf
    rw [if_neg e1]
theorem zp196 {h : zH} {s : zS} (hM : zMd h s) {a b : Int} (a1 : -2147483648 ≤ a) (a2 : a < 2147483648) (b1 : -2147483648 ≤ b) (b2 : b < 2147483648) : ((0 ≤ a ∧ a ≤ 3) ∧ 0 ≤ b ∧ b ≤ 199 → zm196 (some (13, 0)) (zE a) (zE b) h = some (.inl (zE 1), zsi h 13 0 0 (zE 0))) ∧ (¬ ((0 ≤ a ∧ a ≤ 3) ∧ 0 ≤ b ∧ b ≤ 199) → zm196 (some (13, 0)) (zE a) (zE b) h = some (.inl (zE 0), zsi h 13 0 0 (zE 1))) := by
  obtain ⟨x, x1, x2⟩ := zp140 (h := h) (x := a) a1 a2
  obtain ⟨y, y1, y2⟩ := zp139i (h := h) (x := b) (lo := 0) (hi := 199) b1 b2 (by omega) (by omega) (by omega) (by omega)
  have z1 : ¬ zE 1 = zE 0 := by decide
  have hM0 := hM.ws 0 (by decide) 0
  have hM1 := hM.ws 0 (by decide) 1
  rcases x1 with ⟨rfl, x1⟩ | ⟨rfl, x1⟩
  · rcases y1 with ⟨rfl, y1⟩ | ⟨rfl, y1⟩
    · refine ⟨fun _ => ?_, fun z => absurd ⟨x1, y1⟩ z⟩
      simp only [zm196, zm196_12, x2, y2, ↓zb_s, ↓zM_ob, ↓zlet_s, zE_0, zE_1, zE_2, zE_3, zE_4, zE_5, zE_6, zE_7, zE_8, zE_9, zE_10, zE_11, zE_12, zE_13, zE_14, zE_neg, zE_199, z1, if_true, if_false, zMs0 hM0, zup_s]
    · refine ⟨fun z => absurd z.2 y1, fun z => ?_⟩
      simp only [zm196, zm196_12, x2, y2, ↓zb_s, ↓zM_ob, ↓zlet_s, zE_0, zE_1, zE_2, zE_3, zE_4, zE_5, zE_6, zE_7, zE_8, zE_9, zE_10, zE_11, zE_12, zE_13, zE_14, zE_neg, zE_199, z1, if_true, if_false, zMs0 hM1, zup_s]
  · refine ⟨fun z => absurd z.1 x1, fun z => ?_⟩
    simp only [zm196, zm196_12, x2, ↓zb_s, ↓zM_ob, ↓zlet_s, zE_0, zE_1, zE_2, zE_3, zE_4, zE_5, zE_6, zE_7, zE_8, zE_9, zE_10, zE_11, zE_12, zE_13, zE_14, zE_neg, zE_199, z1, if_true, if_false, zMs0 hM1, zup_s]
theorem zr_sees (x y : Int32) : zPrI (fun h => zm88 (some (12, 0)) x y h) (fun h => zm197 (some (13, 0)) x y h) (fun _ => 0) 1 := by
  refine zPrI_ro fun h s hC hM hW => ?_
  obtain ⟨a, rfl, a1, a2⟩ := zE_ex x
  obtain ⟨b, rfl, b1, b2⟩ := zE_ex y
  obtain ⟨cr, cs, cA, cP, cR, cZ, cT, cE, cV, cK, -⟩ := hC
  obtain ⟨wA, wK, wC, wD, -⟩ := hW
  have hn := wA.1
  have z1 : ¬ zE 1 = zE 0 := by decide
  by_cases c : (0 ≤ a ∧ a ≤ 3) ∧ 0 ≤ b ∧ b ≤ 199
  · obtain ⟨q1, q2⟩ := zsnf_r wK wC (v := a) (c := b) (by omega) (by omega) (by omega) (by omega)
    refine ⟨0, zsnf s a b, zsnf s a b, by omega, by omega, Or.inl ⟨rfl, ?_⟩, fun _ => rfl, fun h' hM' => ?_⟩
    · have e := zc89 cr cV cK wA wK wC (v := a) (c := b) (by omega) (by omega) (by omega) (by omega)
      simp (discharger := omega) only [zm88, zE_0, zE_1, zE_2, zE_3, zE_4, zE_5, zE_6, zE_7, zE_8, zE_9, zE_10, zE_11, zE_12, zE_13, zE_14, zE_neg, zE_199, zc131, if_pos c.1, if_pos c.2, ↓zo_12, ↓zb_s, e, zc134 cA]
    · have hM1 := hM'.ws 0 (by decide) 0
      have e := zp195 hM1 (show zWa (zup s 0 0 0) from wA) (show zWk (zup s 0 0 0) from wK) (show zWc (zup s 0 0 0) from wC) (v := a) (c := b) (by omega) (by omega) (by omega) (by omega)
      simp only [zm197, ↓zM_ob, (zp196 hM' a1 a2 b1 b2).1 c, ↓zb_s, zE_0, z1, if_false]
      rw [← zE_0, zE_0, e, zb_s]
      rfl
  · refine ⟨1, 0, 0, by omega, by omega, Or.inr ⟨by omega, 1, by omega, ?_⟩, fun _ => rfl, fun h' hM' => ?_⟩
    · by_cases c1 : 0 ≤ a ∧ a ≤ 3
      · have c2 : ¬ (0 ≤ b ∧ b ≤ 199) := fun z => c ⟨c1, z⟩
        simp (discharger := omega) only [zm88, zE_0, zE_1, zE_2, zE_3, zE_4, zE_5, zE_6, zE_7, zE_8, zE_9, zE_10, zE_11, zE_12, zE_13, zE_14, zE_neg, zE_199, zc131, if_pos c1, if_neg c2, ↓zb_s, ↓zb_x]
      · simp (discharger := omega) only [zm88, zE_0, zE_1, zE_2, zE_3, zE_4, zE_5, zE_6, zE_7, zE_8, zE_9, zE_10, zE_11, zE_12, zE_13, zE_14, zE_neg, zE_199, zc131, if_neg c1, ↓zb_x]
    · simp only [zm197, ↓zM_ob, (zp196 hM' a1 a2 b1 b2).2 c, ↓zb_s, zE_0, if_true]
