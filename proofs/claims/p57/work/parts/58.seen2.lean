set_option maxRecDepth 16384
/-! Who sees what: both sides. -/
theorem zE_div {a c : Int} (h1 : 0 ≤ a) (h2 : a < 2147483648) (h3 : 0 < c) (h4 : c < 2147483648) : zE a / zE c = zE (a / c) := by
  have e1 : Int32.minValue.toInt = -2147483648 := by decide
  have e2 : Int32.maxValue.toInt = 2147483647 := by decide
  have h := Int32.ofInt_tdiv (a := a) (b := c) (by omega) (by omega) (by omega) (by omega)
  rw [Int.tdiv_eq_ediv_of_nonneg h1] at h
  exact h.symm
theorem zE_rem {a c : Int} (h1 : 0 ≤ a) (h2 : a < 2147483648) (h3 : 0 < c) (h4 : c < 2147483648) : zE a - zE a / zE c * zE c = zE (a % c) := by
  rw [zE_div h1 h2 h3 h4, zE_mul, zE_sub, Int.emod_def, Int.mul_comm]
def zrgf (c : Int) : Int := if c % 10 = 0 then 0 else if c % 10 ≤ 3 then 1 else 2
theorem zrgf_r (c : Int) : 0 ≤ zrgf c ∧ zrgf c ≤ 2 := by
  unfold zrgf
  split
  · omega
  · split <;> omega
theorem zrgf_e {c r : Int} : zrg c r ↔ r = zrgf c := by
  unfold zrg zrgf
  split
  · omega
  · split <;> omega
theorem zc135 {h : zH} {c : Int} (h1 : 0 ≤ c) (h2 : c < 200) : zm135 (zE c) h = some (.inl (zE (zrgf c)), h) := by
  unfold zrgf
  simp (discharger := omega) only [zm135, zE_0, zE_1, zE_2, zE_3, zE_4, zE_5, zE_6, zE_7, zE_8, zE_9, zE_10, zE_11, zE_12, zE_13, zE_14, zE_neg, zE_rem, ↓zlet_s, zE_inj, zE_lt]
  by_cases e1 : c % 10 = 0
  · rw [if_pos e1, if_pos e1]
  · rw [if_neg e1, if_neg e1]
    by_cases e2 : c % 10 ≤ 3
    · rw [if_neg (by omega), if_pos e2]
    · rw [if_pos (by omega), if_neg e2]
/-- what a customer sees -/
def zsnf (s : zS) (v c : Int) : Int := if s 18 (200 * v + c) = -1 then (if (37 * c + 11 * v) % 100 < s 14 (3 * v + zrgf c) then s 13 (3 * v + zrgf c) else s 12 (3 * v + zrgf c)) else s 18 (200 * v + c)
theorem zsnf_r {s : zS} (hK : zWk s) (hC : zWc s) {v c : Int} (v1 : 0 ≤ v) (v2 : v < 4) (c1 : 0 ≤ c) (c2 : c < 200) : -1 ≤ zsnf s v c ∧ zsnf s v c < s 2 0 := by
  have hr := zrgf_r c
  obtain ⟨a, b, -⟩ := hK (3 * v + zrgf c) (by omega) (by omega)
  obtain ⟨d, e, -⟩ := hC.2 (200 * v + c) (by omega) (by omega)
  unfold zsnf
  split
  · split
    · exact b
    · exact a
  · exact ⟨d, e⟩
theorem zc89 {h : zH} {s : zS} (hR : zCr h) (hV : zCV h s) (hKk : zCK h s) (hA : zWa s) (hK : zWk s) (hC : zWc s) {v c : Int} (v1 : 0 ≤ v) (v2 : v < 4) (c1 : 0 ≤ c) (c2 : c < 200) : zm89 (some (12, 0)) (zE v) (zE c) h = some (.inl (zrf 0 (zsnf s v c)), h) := by
  have hn := hA.1
  have hr := zrgf_r c
  obtain ⟨a, b, sh, -⟩ := hK (3 * v + zrgf c) (by omega) (by omega)
  obtain ⟨d, e, -⟩ := hC.2 (200 * v + c) (by omega) (by omega)
  by_cases e1 : s 18 (200 * v + c) = -1
  · have e9 : (zrf 0 (s 18 (200 * v + c)) = none) = True := by rw [zrf_z d]; exact eq_true e1
    have e37 : (37 : Int32) = zE 37 := zE_37
    by_cases e2 : (37 * c + 11 * v) % 100 < s 14 (3 * v + zrgf c)
    · have e3 : ¬ s 14 (3 * v + zrgf c) ≤ (37 * c + 11 * v) % 100 := by omega
      simp (discharger := omega) only [zm89, ↓zo_12, ↓zo_9, ↓zLVa hR hV, ↓zLSa hV, e9, if_true, zc135, ↓zb_s, ↓zLKa hV, e37, zE_11, zE_100, zE_mul, zE_add, zE_rem, ↓zlet_s, ↓zo_10, zCk2 hKk, zE_le, e3, if_false, zCk1 hKk]
      unfold zsnf
      rw [if_pos e1, if_pos e2]
    · have e3 : s 14 (3 * v + zrgf c) ≤ (37 * c + 11 * v) % 100 := by omega
      simp (discharger := omega) only [zm89, ↓zo_12, ↓zo_9, ↓zLVa hR hV, ↓zLSa hV, e9, if_true, zc135, ↓zb_s, ↓zLKa hV, e37, zE_11, zE_100, zE_mul, zE_add, zE_rem, ↓zlet_s, ↓zo_10, zCk2 hKk, zE_le, e3, zCk0 hKk]
      unfold zsnf
      rw [if_pos e1, if_neg e2]
  · have e9 : (zrf 0 (s 18 (200 * v + c)) = none) = False := by rw [zrf_z d]; exact eq_false e1
    simp (discharger := omega) only [zm89, ↓zo_12, ↓zo_9, ↓zLVa hR hV, ↓zLSa hV, e9, if_false]
    unfold zsnf
    rw [if_neg e1]
