set_option maxRecDepth 16384
/-! What a ring shows agrees with itself. -/
theorem zlv_12 {s : zS} {k : Int} (hK : zWk s) (k0 : 0 ≤ k) (k1 : k < 12) (h : s 12 k ≠ -1) : zlv s (s 12 k) (-1) := by
  have q := (hK k k0 k1).2.2.2.2.1 h
  refine zlv_1.mpr (Or.inl ⟨k % 3, by omega, by omega, Or.inl ?_⟩)
  rw [q, show 3 * (k / 3) + k % 3 = k by omega]
theorem zlv_13 {s : zS} {k : Int} (hK : zWk s) (k0 : 0 ≤ k) (k1 : k < 12) (h : s 13 k ≠ -1) : zlv s (s 13 k) (-1) := by
  have q := (hK k k0 k1).2.2.2.2.2 h
  refine zlv_1.mpr (Or.inl ⟨k % 3, by omega, by omega, Or.inr ?_⟩)
  rw [q, show 3 * (k / 3) + k % 3 = k by omega]
theorem zk_live1 {h : zH} {s : zS} {a : Int} (hC : zCl h s) (hW : zWf s) (a0 : 0 ≤ a) (a1 : a < s 2 0) (l : zlv s a (-1)) : zm43 (some (12, 0)) (zE a) h = some (.inl (zE 1), h) := by
  obtain ⟨b, b1, b2⟩ := zk_isLive hC hW a0 a1
  rwa [b1.u (zbo_1 l)] at b2
theorem zk_may0 {h : zH} {s : zS} {a : Int} (hC : zCl h s) (hW : zWf s) (c : 0 ≤ a ∧ a < s 2 0) (l : zmyV s a 0) : zm44 (some (12, 0)) (zE a) h = some (.inl (zE 0), h) := by
  obtain ⟨b, b1, b2⟩ := zk_mayGo hC hW c
  rwa [zmyV_u b1 l] at b2
theorem zk_isRing {h : zH} {s : zS} {v g : Int} (hC : zCl h s) (hW : zWf s) (hJ : zJv s) (v0 : 0 ≤ v ∧ v ≤ 3) (g0 : 0 ≤ g ∧ g ≤ 2) : zm243 (some (12, 0)) (zE v) (zE g) h = some (.inl (zE 1), h) := by
  have z1 : ¬ zE 1 = zE 0 := by decide
  have hn := hW.1.1
  have hK := hW.2.1
  have wM := hW.2.2.2.2.2.2.2.2.2.2.1
  have c : (0 ≤ v ∧ v ≤ 3) ∧ 0 ≤ g ∧ g ≤ 2 := ⟨v0, g0⟩
  obtain ⟨k, hk⟩ : ∃ k, k = 3 * v + g := ⟨_, rfl⟩
  have k0 : 0 ≤ k := by omega
  have k1 : k < 12 := by omega
  have e85 := zk_stable hC hW c
  have e86 := zk_candidate hC hW c
  have e87 := zk_share hC hW c
  have e102 := zk_capital hC hW c
  have e103 := zk_verdict hC hW c
  have e104 := zk_verdictByAll hC hW c
  obtain ⟨w, w1, w2⟩ := zk_wayOut hC hW c
  rw [← hk] at e85 e86 e87 e102 e103 e104 w2
  have hp := zprs_r wM k0 k1
  have h6 := wM.1
  have cap := zcap_p (s := s) (k := k) (n := (zprs s k).toNat) (by omega)
  obtain ⟨q1, q2, q3, q4, q5, q6⟩ := hK k k0 k1
  have j := hJ.2.1 k k0 k1
  have e71 : zm243_71 (some (12, 0)) (zE v) (zE g) (zE (s 12 k)) (zE 1) h = some (.inl (zE 1), h) := by
    rw [zm243_71, zo_12, w1, zb_s, zE_0, if_neg z1]
    by_cases d : w < 0
    · rw [if_pos (by rw [zE_lt (by omega) (by omega) (by omega) (by omega)]; exact d), zE_1]
    · obtain ⟨d1, d2, d3⟩ := w2.resolve_left (by omega)
      rw [if_neg (by rw [zE_lt (by omega) (by omega) (by omega) (by omega)]; exact d), if_neg (by rw [zE_le (by omega) (by omega) (by omega) (by omega)]; omega), zk_may0 hC hW ⟨by omega, d2⟩ d3, zb_s, if_pos rfl, zE_1]
  have e52 : zm243_52 (some (12, 0)) (zE v) (zE g) (zE (s 12 k)) h = some (.inl (zE 1), h) := by
    rw [zm243_52, zo_12, e103, zb_s, e104, zb_s, if_pos rfl, e102, zb_s, cap, if_neg (by decide), zE_1]
    exact e71
  have e44 : zm243_44 (some (12, 0)) (zE v) (zE g) (zE (s 12 k)) (zE (s 13 k)) (zE 1) h = some (.inl (zE 1), h) := by
    rw [zm243_44, zE_0, if_neg z1]
    by_cases d : s 12 k < 0
    · rw [if_pos (by rw [zE_lt (by omega) (by omega) (by omega) (by omega)]; exact d)]
      exact e52
    · rw [if_neg (by rw [zE_lt (by omega) (by omega) (by omega) (by omega)]; exact d), if_neg (by
        rw [zE_inj (by omega) (by omega) (by omega) (by omega)]
        intro z
        have := j (by omega)
        omega)]
      exact e52
  have e100 : (100 : Int32) = zE 100 := by decide
  have e37 : ∀ b : Int, zm243_37 (some (12, 0)) (zE v) (zE g) (zE (s 12 k)) (zE (s 13 k)) (zE (s 14 k)) (zE b) (zE b) h = some (.inl (zE 1), h) := fun b => by
    rw [zm243_37, if_pos rfl, e100, if_neg (by rw [zE_lt (by omega) (by omega) (by omega) (by omega)]; omega), zE_1]
    exact e44
  have e27 : zm243_27 (some (12, 0)) (zE v) (zE g) (zE (s 12 k)) (zE (s 13 k)) (zE (s 14 k)) h = some (.inl (zE 1), h) := by
    rw [zm243_27, zE_0, zE_1]
    by_cases d : s 14 k ≤ 0
    · have d13 : s 13 k = -1 := q4.mpr (by omega)
      rw [if_pos (by rw [zE_le (by omega) (by omega) (by omega) (by omega)]; exact d), zm243_32, zE_0, if_pos (by rw [zE_lt (by omega) (by omega) (by omega) (by omega)]; omega)]
      exact e37 0
    · have d13 : s 13 k ≠ -1 := fun z => by have := q4.mp z; omega
      rw [if_neg (by rw [zE_le (by omega) (by omega) (by omega) (by omega)]; exact d), zm243_32, zE_0, if_neg (by rw [zE_lt (by omega) (by omega) (by omega) (by omega)]; omega), zE_1]
      exact e37 1
  have e21 : zm243_21 (some (12, 0)) (zE v) (zE g) (zE (s 12 k)) (zE (s 13 k)) (zE (s 14 k)) h = some (.inl (zE 1), h) := by
    rw [zm243_21, zE_0]
    by_cases d : s 13 k < 0
    · rw [if_pos (by rw [zE_lt (by omega) (by omega) (by omega) (by omega)]; exact d)]
      exact e27
    · rw [if_neg (by rw [zE_lt (by omega) (by omega) (by omega) (by omega)]; exact d), zo_12, zk_live1 hC hW (by omega) q2.2 (zlv_13 hK k0 k1 (by omega)), zb_s, if_neg z1]
      exact e27
  rw [zm243, zo_12, e85, zb_s, e86, zb_s, e87, zb_s, zE_0]
  by_cases d : s 12 k < 0
  · rw [if_pos (by rw [zE_lt (by omega) (by omega) (by omega) (by omega)]; exact d)]
    exact e21
  · rw [if_neg (by rw [zE_lt (by omega) (by omega) (by omega) (by omega)]; exact d), zk_live1 hC hW (by omega) q1.2 (zlv_12 hK k0 k1 (by omega)), zb_s, if_neg z1]
    exact e21
