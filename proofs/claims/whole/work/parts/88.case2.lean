set_option maxRecDepth 16384
/-! The law's other calls: truths among the arguments, doubles and floats for an answer (printed by wip/whole/gen/cases2.py). -/
theorem zbt01 (x : Int32) : ∃ b : Int, (b = 0 ∨ b = 1) ∧ ∀ f g : zRs Int32, (if x = 0 then f else g) = (if b = 0 then f else g) := by
  by_cases e : x = 0
  · exact ⟨0, Or.inl rfl, fun f g => by rw [if_pos e, if_pos rfl]⟩
  · exact ⟨1, Or.inr rfl, fun f g => by rw [if_neg e, if_neg (by decide)]⟩
/-- .. with a double for an answer -/
def zPrD (C M : zH → zRs UInt64) (ex : Int → Nat) (tm : Int) : Prop := ∀ (h : zH) (s : zS), zCl h s → zMd h s → zWf s → ∃ (t : Int) (v w : UInt64) (s' : zS), 0 ≤ t ∧ t ≤ tm ∧ zWf s' ∧ ((t = 0 ∧ zCct h s' (C h) (.inl v)) ∨ (t ≠ 0 ∧ zCct h s' (C h) (.inr (ex t)))) ∧ (t = 0 → w = v) ∧ ∀ h', zMd h' s → ∃ s'', zsc s' s'' ∧ s'' 0 0 = t ∧ zMct h' s'' (M h') w
/-- .. with a float for an answer, which is a number -/
def zPrF (C M : zH → zRs UInt32) (ex : Int → Nat) (tm : Int) : Prop := ∀ (h : zH) (s : zS), zCl h s → zMd h s → zWf s → ∃ (t : Int) (v w : UInt32) (s' : zS), 0 ≤ t ∧ t ≤ tm ∧ zWf s' ∧ ((t = 0 ∧ zCct h s' (C h) (.inl v)) ∨ (t ≠ 0 ∧ zCct h s' (C h) (.inr (ex t)))) ∧ (t = 0 → w = v ∧ FP.f2d v &&& 0x7fffffffffffffff ≤ 0x7ff0000000000000 ∧ (Op.cmpValue (FP.dcmp (FP.f2d v) (FP.f2d v)) .l) = 0) ∧ ∀ h', zMd h' s → ∃ s'', zsc s' s'' ∧ s'' 0 0 = t ∧ zMct h' s'' (M h') w
theorem zd_sd {h : zH} {k i j : Nat} {v : UInt64} : zd (zsd h k i j v) k i j = v := if_pos ⟨rfl, rfl, rfl⟩
section ZOUTD
variable {α : Type}
theorem zoutd_s {L : Nat} {xs : Nat → Int32} {h : zH} {g : Nat → Nat → Nat → Option α} (hS : zSc L xs h) : zar 4 (some (39, 0)) (0 : Int32) h g = g 39 0 0 := by
  rw [zE_0]
  exact zar_s (k := 39) (i := 0) (n := 1) rfl rfl hS.2.1 (Int.le_refl _) (by omega) (by omega)
theorem zoutdr_s {L : Nat} {xs : Nat → Int32} {h : zH} {g : UInt64 → Option α} (hS : zSc L xs h) : zrd (some (39, 0)) (0 : Int32) h g = g (zd h 39 0 0) := by
  unfold zrd
  rw [zoutd_s hS]
end ZOUTD
set_option maxHeartbeats 400000 in
theorem zcase_0 (hp : ∀ x1 x2 x3 x4 x5 x6 x7 : Int32, ∀ qb8 : Int, (qb8 = 0 ∨ qb8 = 1) → ∀ qb9 : Int, (qb9 = 0 ∨ qb9 = 1) → zPrI (fun h => zm40 (some (12, 0)) x1 x2 x3 x4 x5 x6 x7 (zE qb8) (zE qb9) h) (fun h => zm145 (some (13, 0)) x1 x2 x3 x4 x5 x6 x7 (zE qb8) (zE qb9) h) (fun t => if t = 1 then 0 else 1) 2) : zCase fun k => zm291_28 k := by
  intro L xs h s i k hL hI h0 h1
  obtain ⟨hC, hM, hW, hS⟩ := hI
  obtain ⟨qb8, qr8, qy8⟩ := zbt01 (xs (i + 8).toNat)
  obtain ⟨qb9, qr9, qy9⟩ := zbt01 (xs (i + 9).toNat)
  obtain ⟨t, v, w, s', t0, t3, hW', hc, hwv, hm⟩ := hp (xs (i + 1).toNat) (xs (i + 2).toNat) (xs (i + 3).toNat) (xs (i + 4).toNat) (xs (i + 5).toNat) (xs (i + 6).toNat) (xs (i + 7).toNat) qb8 qr8 qb9 qr9 h s hC hM hW
  have hx : ∀ t : Int, 1 ≤ t → t ≤ 2 → zhnd [(0, 15, 0, 1), (0, 15, 1, 2)] 12 ((fun t => if t = 1 then 0 else 1) t) = some t.toNat := by
    intro t a b
    rcases (show t = 1 ∨ t = 2 by omega) with rfl | rfl <;> rfl
  have q2 : ¬ (1 : Int) = 0 := by decide
  have q1 : ¬ zE 1 = zE 0 := by decide
  rcases hc with ⟨rfl, h1, e1, c1, k1, r1, r2⟩ | ⟨tn, h1, e1, c1, k1, r1, r2⟩
  · have hS1 := zSc_1 hS k1
    dsimp only at e1
    have hS2 : zSc L xs (zsl h1 38 0 0 (zE v).toInt64) := hS1
    have hk2 : ∀ k, k ≠ 38 → k ≠ 39 → zct (zsl h1 38 0 0 (zE v).toInt64) k = zct h1 k ∧ zln (zsl h1 38 0 0 (zE v).toInt64) k = zln h1 k ∧ zi (zsl h1 38 0 0 (zE v).toInt64) k = zi h1 k ∧ zr (zsl h1 38 0 0 (zE v).toInt64) k = zr h1 k ∧ zd (zsl h1 38 0 0 (zE v).toInt64) k = zd h1 k ∧ zl (zsl h1 38 0 0 (zE v).toInt64) k = zl h1 k := fun k a _ => ⟨rfl, rfl, rfl, rfl, rfl, zu_k a⟩
    obtain ⟨s'', m1, m2, h3, m3, m4, m5, m6, m7⟩ := hm (zsl h1 38 0 0 (zE v).toInt64) (show zMd h1 s from zMd_1 hM k1)
    dsimp only at m3
    have hI3 := zinv_end hS c1 k1 hk2 ⟨rfl, rfl⟩ m1 m4 m5 hW'
    have hl3 : zl h3 38 0 0 = (zE v).toInt64 := by
      rw [(m5 38 (by unfold zpm1; omega)).2.2.2.2.2]
      exact zl_sl
    refine ⟨h3, s'', hI3, by have a1 : zce (zsl h1 38 0 0 (zE v).toInt64) = zce h1 := rfl; have a2 : zso (zsl h1 38 0 0 (zE v).toInt64) = zso h1 := rfl; omega, by have a1 : zce (zsl h1 38 0 0 (zE v).toInt64) = zce h1 := rfl; have a2 : zso (zsl h1 38 0 0 (zE v).toInt64) = zso h1 := rfl; omega, ?_⟩
    have w1 : zm241 (some (12, 0)) (xs (i + 1).toNat) (xs (i + 2).toNat) (xs (i + 3).toNat) (xs (i + 4).toNat) (xs (i + 5).toNat) (xs (i + 6).toNat) (xs (i + 7).toNat) (zE qb8) (zE qb9) (some (38, 0)) h = some (.inl (zE 0), (zsl h1 38 0 0 (zE v).toInt64)) := by
      simp only [zm241, ↓zo_12, e1, zbH_s, ↓zout_s hS1, ↓zlet_s]
      rw [zE_0]
    rcases qr8 with rfl | rfl <;> rcases qr9 with rfl | rfl
    · show zm291_28 k _ _ _ _ _ _ _ = _
      have w2 : zm241 (some (12, 0)) (xs (i + 1).toNat) (xs (i + 2).toNat) (xs (i + 3).toNat) (xs (i + 4).toNat) (xs (i + 5).toNat) (xs (i + 6).toNat) (xs (i + 7).toNat) (0 : Int32) (0 : Int32) (some (38, 0)) h = _ := (congrArg (fun x => x) (by simp only [zE_0, zE_1] : zm241 (some (12, 0)) (xs (i + 1).toNat) (xs (i + 2).toNat) (xs (i + 3).toNat) (xs (i + 4).toNat) (xs (i + 5).toNat) (xs (i + 6).toNat) (xs (i + 7).toNat) (0 : Int32) (0 : Int32) (some (38, 0)) h = zm241 (some (12, 0)) (xs (i + 1).toNat) (xs (i + 2).toNat) (xs (i + 3).toNat) (xs (i + 4).toNat) (xs (i + 5).toNat) (xs (i + 6).toNat) (xs (i + 7).toNat) (zE 0) (zE 0) (some (38, 0)) h)).trans w1
      have m8 : zm145 (some (13, 0)) (xs (i + 1).toNat) (xs (i + 2).toNat) (xs (i + 3).toNat) (xs (i + 4).toNat) (xs (i + 5).toNat) (xs (i + 6).toNat) (xs (i + 7).toNat) (0 : Int32) (0 : Int32) (zsl h1 38 0 0 (zE v).toInt64) = _ := (congrArg (fun x => x) (by simp only [zE_0, zE_1] : zm145 (some (13, 0)) (xs (i + 1).toNat) (xs (i + 2).toNat) (xs (i + 3).toNat) (xs (i + 4).toNat) (xs (i + 5).toNat) (xs (i + 6).toNat) (xs (i + 7).toNat) (0 : Int32) (0 : Int32) (zsl h1 38 0 0 (zE v).toInt64) = zm145 (some (13, 0)) (xs (i + 1).toNat) (xs (i + 2).toNat) (xs (i + 3).toNat) (xs (i + 4).toNat) (xs (i + 5).toNat) (xs (i + 6).toNat) (xs (i + 7).toNat) (zE 0) (zE 0) (zsl h1 38 0 0 (zE v).toInt64))).trans m3
      rw [zm291_28, zscr_s (i := i) (j := 1) hS hL zE_1 (by omega) (by omega), zscr_s (i := i) (j := 2) hS hL zE_2 (by omega) (by omega), zscr_s (i := i) (j := 3) hS hL zE_3 (by omega) (by omega), zscr_s (i := i) (j := 4) hS hL zE_4 (by omega) (by omega), zscr_s (i := i) (j := 5) hS hL zE_5 (by omega) (by omega), zscr_s (i := i) (j := 6) hS hL zE_6 (by omega) (by omega), zscr_s (i := i) (j := 7) hS hL zE_7 (by omega) (by omega), zscr_s (i := i) (j := 8) hS hL zE_8 (by omega) (by omega), qy8, if_pos rfl, zm291_73, zscr_s (i := i) (j := 9) hS hL zE_9 (by omega) (by omega), qy9, if_pos rfl, zm291_82, w2, zb2_s, zscr_s (i := i) (j := 1) hS2 hL zE_1 (by omega) (by omega), zscr_s (i := i) (j := 2) hS2 hL zE_2 (by omega) (by omega), zscr_s (i := i) (j := 3) hS2 hL zE_3 (by omega) (by omega), zscr_s (i := i) (j := 4) hS2 hL zE_4 (by omega) (by omega), zscr_s (i := i) (j := 5) hS2 hL zE_5 (by omega) (by omega), zscr_s (i := i) (j := 6) hS2 hL zE_6 (by omega) (by omega), zscr_s (i := i) (j := 7) hS2 hL zE_7 (by omega) (by omega), zscr_s (i := i) (j := 8) hS2 hL zE_8 (by omega) (by omega), qy8, if_pos rfl, zm291_130, zscr_s (i := i) (j := 9) hS2 hL zE_9 (by omega) (by omega), qy9, if_pos rfl, zm291_139, zo_13, m8, zb_s, zo_13, zthr m4, zb_s, m2, if_pos rfl, if_pos zE_0.symm, zoutr_s hI3.2.2.2, hl3, hwv rfl, lg_cmp_e, if_pos rfl, zgo]
    · show zm291_28 k _ _ _ _ _ _ _ = _
      have w2 : zm241 (some (12, 0)) (xs (i + 1).toNat) (xs (i + 2).toNat) (xs (i + 3).toNat) (xs (i + 4).toNat) (xs (i + 5).toNat) (xs (i + 6).toNat) (xs (i + 7).toNat) (0 : Int32) (1 : Int32) (some (38, 0)) h = _ := (congrArg (fun x => x) (by simp only [zE_0, zE_1] : zm241 (some (12, 0)) (xs (i + 1).toNat) (xs (i + 2).toNat) (xs (i + 3).toNat) (xs (i + 4).toNat) (xs (i + 5).toNat) (xs (i + 6).toNat) (xs (i + 7).toNat) (0 : Int32) (1 : Int32) (some (38, 0)) h = zm241 (some (12, 0)) (xs (i + 1).toNat) (xs (i + 2).toNat) (xs (i + 3).toNat) (xs (i + 4).toNat) (xs (i + 5).toNat) (xs (i + 6).toNat) (xs (i + 7).toNat) (zE 0) (zE 1) (some (38, 0)) h)).trans w1
      have m8 : zm145 (some (13, 0)) (xs (i + 1).toNat) (xs (i + 2).toNat) (xs (i + 3).toNat) (xs (i + 4).toNat) (xs (i + 5).toNat) (xs (i + 6).toNat) (xs (i + 7).toNat) (0 : Int32) (1 : Int32) (zsl h1 38 0 0 (zE v).toInt64) = _ := (congrArg (fun x => x) (by simp only [zE_0, zE_1] : zm145 (some (13, 0)) (xs (i + 1).toNat) (xs (i + 2).toNat) (xs (i + 3).toNat) (xs (i + 4).toNat) (xs (i + 5).toNat) (xs (i + 6).toNat) (xs (i + 7).toNat) (0 : Int32) (1 : Int32) (zsl h1 38 0 0 (zE v).toInt64) = zm145 (some (13, 0)) (xs (i + 1).toNat) (xs (i + 2).toNat) (xs (i + 3).toNat) (xs (i + 4).toNat) (xs (i + 5).toNat) (xs (i + 6).toNat) (xs (i + 7).toNat) (zE 0) (zE 1) (zsl h1 38 0 0 (zE v).toInt64))).trans m3
      rw [zm291_28, zscr_s (i := i) (j := 1) hS hL zE_1 (by omega) (by omega), zscr_s (i := i) (j := 2) hS hL zE_2 (by omega) (by omega), zscr_s (i := i) (j := 3) hS hL zE_3 (by omega) (by omega), zscr_s (i := i) (j := 4) hS hL zE_4 (by omega) (by omega), zscr_s (i := i) (j := 5) hS hL zE_5 (by omega) (by omega), zscr_s (i := i) (j := 6) hS hL zE_6 (by omega) (by omega), zscr_s (i := i) (j := 7) hS hL zE_7 (by omega) (by omega), zscr_s (i := i) (j := 8) hS hL zE_8 (by omega) (by omega), qy8, if_pos rfl, zm291_73, zscr_s (i := i) (j := 9) hS hL zE_9 (by omega) (by omega), qy9, if_neg q2, zm291_82, w2, zb2_s, zscr_s (i := i) (j := 1) hS2 hL zE_1 (by omega) (by omega), zscr_s (i := i) (j := 2) hS2 hL zE_2 (by omega) (by omega), zscr_s (i := i) (j := 3) hS2 hL zE_3 (by omega) (by omega), zscr_s (i := i) (j := 4) hS2 hL zE_4 (by omega) (by omega), zscr_s (i := i) (j := 5) hS2 hL zE_5 (by omega) (by omega), zscr_s (i := i) (j := 6) hS2 hL zE_6 (by omega) (by omega), zscr_s (i := i) (j := 7) hS2 hL zE_7 (by omega) (by omega), zscr_s (i := i) (j := 8) hS2 hL zE_8 (by omega) (by omega), qy8, if_pos rfl, zm291_130, zscr_s (i := i) (j := 9) hS2 hL zE_9 (by omega) (by omega), qy9, if_neg q2, zm291_139, zo_13, m8, zb_s, zo_13, zthr m4, zb_s, m2, if_pos rfl, if_pos zE_0.symm, zoutr_s hI3.2.2.2, hl3, hwv rfl, lg_cmp_e, if_pos rfl, zgo]
    · show zm291_28 k _ _ _ _ _ _ _ = _
      have w2 : zm241 (some (12, 0)) (xs (i + 1).toNat) (xs (i + 2).toNat) (xs (i + 3).toNat) (xs (i + 4).toNat) (xs (i + 5).toNat) (xs (i + 6).toNat) (xs (i + 7).toNat) (1 : Int32) (0 : Int32) (some (38, 0)) h = _ := (congrArg (fun x => x) (by simp only [zE_0, zE_1] : zm241 (some (12, 0)) (xs (i + 1).toNat) (xs (i + 2).toNat) (xs (i + 3).toNat) (xs (i + 4).toNat) (xs (i + 5).toNat) (xs (i + 6).toNat) (xs (i + 7).toNat) (1 : Int32) (0 : Int32) (some (38, 0)) h = zm241 (some (12, 0)) (xs (i + 1).toNat) (xs (i + 2).toNat) (xs (i + 3).toNat) (xs (i + 4).toNat) (xs (i + 5).toNat) (xs (i + 6).toNat) (xs (i + 7).toNat) (zE 1) (zE 0) (some (38, 0)) h)).trans w1
      have m8 : zm145 (some (13, 0)) (xs (i + 1).toNat) (xs (i + 2).toNat) (xs (i + 3).toNat) (xs (i + 4).toNat) (xs (i + 5).toNat) (xs (i + 6).toNat) (xs (i + 7).toNat) (1 : Int32) (0 : Int32) (zsl h1 38 0 0 (zE v).toInt64) = _ := (congrArg (fun x => x) (by simp only [zE_0, zE_1] : zm145 (some (13, 0)) (xs (i + 1).toNat) (xs (i + 2).toNat) (xs (i + 3).toNat) (xs (i + 4).toNat) (xs (i + 5).toNat) (xs (i + 6).toNat) (xs (i + 7).toNat) (1 : Int32) (0 : Int32) (zsl h1 38 0 0 (zE v).toInt64) = zm145 (some (13, 0)) (xs (i + 1).toNat) (xs (i + 2).toNat) (xs (i + 3).toNat) (xs (i + 4).toNat) (xs (i + 5).toNat) (xs (i + 6).toNat) (xs (i + 7).toNat) (zE 1) (zE 0) (zsl h1 38 0 0 (zE v).toInt64))).trans m3
      rw [zm291_28, zscr_s (i := i) (j := 1) hS hL zE_1 (by omega) (by omega), zscr_s (i := i) (j := 2) hS hL zE_2 (by omega) (by omega), zscr_s (i := i) (j := 3) hS hL zE_3 (by omega) (by omega), zscr_s (i := i) (j := 4) hS hL zE_4 (by omega) (by omega), zscr_s (i := i) (j := 5) hS hL zE_5 (by omega) (by omega), zscr_s (i := i) (j := 6) hS hL zE_6 (by omega) (by omega), zscr_s (i := i) (j := 7) hS hL zE_7 (by omega) (by omega), zscr_s (i := i) (j := 8) hS hL zE_8 (by omega) (by omega), qy8, if_neg q2, zm291_73, zscr_s (i := i) (j := 9) hS hL zE_9 (by omega) (by omega), qy9, if_pos rfl, zm291_82, w2, zb2_s, zscr_s (i := i) (j := 1) hS2 hL zE_1 (by omega) (by omega), zscr_s (i := i) (j := 2) hS2 hL zE_2 (by omega) (by omega), zscr_s (i := i) (j := 3) hS2 hL zE_3 (by omega) (by omega), zscr_s (i := i) (j := 4) hS2 hL zE_4 (by omega) (by omega), zscr_s (i := i) (j := 5) hS2 hL zE_5 (by omega) (by omega), zscr_s (i := i) (j := 6) hS2 hL zE_6 (by omega) (by omega), zscr_s (i := i) (j := 7) hS2 hL zE_7 (by omega) (by omega), zscr_s (i := i) (j := 8) hS2 hL zE_8 (by omega) (by omega), qy8, if_neg q2, zm291_130, zscr_s (i := i) (j := 9) hS2 hL zE_9 (by omega) (by omega), qy9, if_pos rfl, zm291_139, zo_13, m8, zb_s, zo_13, zthr m4, zb_s, m2, if_pos rfl, if_pos zE_0.symm, zoutr_s hI3.2.2.2, hl3, hwv rfl, lg_cmp_e, if_pos rfl, zgo]
    · show zm291_28 k _ _ _ _ _ _ _ = _
      have w2 : zm241 (some (12, 0)) (xs (i + 1).toNat) (xs (i + 2).toNat) (xs (i + 3).toNat) (xs (i + 4).toNat) (xs (i + 5).toNat) (xs (i + 6).toNat) (xs (i + 7).toNat) (1 : Int32) (1 : Int32) (some (38, 0)) h = _ := (congrArg (fun x => x) (by simp only [zE_0, zE_1] : zm241 (some (12, 0)) (xs (i + 1).toNat) (xs (i + 2).toNat) (xs (i + 3).toNat) (xs (i + 4).toNat) (xs (i + 5).toNat) (xs (i + 6).toNat) (xs (i + 7).toNat) (1 : Int32) (1 : Int32) (some (38, 0)) h = zm241 (some (12, 0)) (xs (i + 1).toNat) (xs (i + 2).toNat) (xs (i + 3).toNat) (xs (i + 4).toNat) (xs (i + 5).toNat) (xs (i + 6).toNat) (xs (i + 7).toNat) (zE 1) (zE 1) (some (38, 0)) h)).trans w1
      have m8 : zm145 (some (13, 0)) (xs (i + 1).toNat) (xs (i + 2).toNat) (xs (i + 3).toNat) (xs (i + 4).toNat) (xs (i + 5).toNat) (xs (i + 6).toNat) (xs (i + 7).toNat) (1 : Int32) (1 : Int32) (zsl h1 38 0 0 (zE v).toInt64) = _ := (congrArg (fun x => x) (by simp only [zE_0, zE_1] : zm145 (some (13, 0)) (xs (i + 1).toNat) (xs (i + 2).toNat) (xs (i + 3).toNat) (xs (i + 4).toNat) (xs (i + 5).toNat) (xs (i + 6).toNat) (xs (i + 7).toNat) (1 : Int32) (1 : Int32) (zsl h1 38 0 0 (zE v).toInt64) = zm145 (some (13, 0)) (xs (i + 1).toNat) (xs (i + 2).toNat) (xs (i + 3).toNat) (xs (i + 4).toNat) (xs (i + 5).toNat) (xs (i + 6).toNat) (xs (i + 7).toNat) (zE 1) (zE 1) (zsl h1 38 0 0 (zE v).toInt64))).trans m3
      rw [zm291_28, zscr_s (i := i) (j := 1) hS hL zE_1 (by omega) (by omega), zscr_s (i := i) (j := 2) hS hL zE_2 (by omega) (by omega), zscr_s (i := i) (j := 3) hS hL zE_3 (by omega) (by omega), zscr_s (i := i) (j := 4) hS hL zE_4 (by omega) (by omega), zscr_s (i := i) (j := 5) hS hL zE_5 (by omega) (by omega), zscr_s (i := i) (j := 6) hS hL zE_6 (by omega) (by omega), zscr_s (i := i) (j := 7) hS hL zE_7 (by omega) (by omega), zscr_s (i := i) (j := 8) hS hL zE_8 (by omega) (by omega), qy8, if_neg q2, zm291_73, zscr_s (i := i) (j := 9) hS hL zE_9 (by omega) (by omega), qy9, if_neg q2, zm291_82, w2, zb2_s, zscr_s (i := i) (j := 1) hS2 hL zE_1 (by omega) (by omega), zscr_s (i := i) (j := 2) hS2 hL zE_2 (by omega) (by omega), zscr_s (i := i) (j := 3) hS2 hL zE_3 (by omega) (by omega), zscr_s (i := i) (j := 4) hS2 hL zE_4 (by omega) (by omega), zscr_s (i := i) (j := 5) hS2 hL zE_5 (by omega) (by omega), zscr_s (i := i) (j := 6) hS2 hL zE_6 (by omega) (by omega), zscr_s (i := i) (j := 7) hS2 hL zE_7 (by omega) (by omega), zscr_s (i := i) (j := 8) hS2 hL zE_8 (by omega) (by omega), qy8, if_neg q2, zm291_130, zscr_s (i := i) (j := 9) hS2 hL zE_9 (by omega) (by omega), qy9, if_neg q2, zm291_139, zo_13, m8, zb_s, zo_13, zthr m4, zb_s, m2, if_pos rfl, if_pos zE_0.symm, zoutr_s hI3.2.2.2, hl3, hwv rfl, lg_cmp_e, if_pos rfl, zgo]
  · have hS1 := zSc_1 hS k1
    dsimp only at e1
    obtain ⟨s'', m1, m2, h3, m3, m4, m5, m6, m7⟩ := hm h1 (zMd_1 hM k1)
    dsimp only at m3
    have hI3 := zinv_end hS c1 k1 (fun k _ _ => ⟨rfl, rfl, rfl, rfl, rfl, rfl⟩) ⟨rfl, rfl⟩ m1 m4 m5 hW'
    refine ⟨h3, s'', hI3, by omega, by omega, ?_⟩
    have e2 : nI t.toNat = zE t := by rw [zE_nI, Int.toNat_of_nonneg t0]
    have w1 : zm241 (some (12, 0)) (xs (i + 1).toNat) (xs (i + 2).toNat) (xs (i + 3).toNat) (xs (i + 4).toNat) (xs (i + 5).toNat) (xs (i + 6).toNat) (xs (i + 7).toNat) (zE qb8) (zE qb9) (some (38, 0)) h = some (.inl (zE t), h1) := by
      simp only [zm241, ↓zo_12, e1]
      rw [zbH_x (hx t (by omega) t3), e2]
    have tz : ¬ zE t = 0 := by rw [zE_0, zE_inj (by omega) (by omega) (by omega) (by omega)]; exact tn
    rcases qr8 with rfl | rfl <;> rcases qr9 with rfl | rfl
    · show zm291_28 k _ _ _ _ _ _ _ = _
      have w2 : zm241 (some (12, 0)) (xs (i + 1).toNat) (xs (i + 2).toNat) (xs (i + 3).toNat) (xs (i + 4).toNat) (xs (i + 5).toNat) (xs (i + 6).toNat) (xs (i + 7).toNat) (0 : Int32) (0 : Int32) (some (38, 0)) h = _ := (congrArg (fun x => x) (by simp only [zE_0, zE_1] : zm241 (some (12, 0)) (xs (i + 1).toNat) (xs (i + 2).toNat) (xs (i + 3).toNat) (xs (i + 4).toNat) (xs (i + 5).toNat) (xs (i + 6).toNat) (xs (i + 7).toNat) (0 : Int32) (0 : Int32) (some (38, 0)) h = zm241 (some (12, 0)) (xs (i + 1).toNat) (xs (i + 2).toNat) (xs (i + 3).toNat) (xs (i + 4).toNat) (xs (i + 5).toNat) (xs (i + 6).toNat) (xs (i + 7).toNat) (zE 0) (zE 0) (some (38, 0)) h)).trans w1
      have m8 : zm145 (some (13, 0)) (xs (i + 1).toNat) (xs (i + 2).toNat) (xs (i + 3).toNat) (xs (i + 4).toNat) (xs (i + 5).toNat) (xs (i + 6).toNat) (xs (i + 7).toNat) (0 : Int32) (0 : Int32) h1 = _ := (congrArg (fun x => x) (by simp only [zE_0, zE_1] : zm145 (some (13, 0)) (xs (i + 1).toNat) (xs (i + 2).toNat) (xs (i + 3).toNat) (xs (i + 4).toNat) (xs (i + 5).toNat) (xs (i + 6).toNat) (xs (i + 7).toNat) (0 : Int32) (0 : Int32) h1 = zm145 (some (13, 0)) (xs (i + 1).toNat) (xs (i + 2).toNat) (xs (i + 3).toNat) (xs (i + 4).toNat) (xs (i + 5).toNat) (xs (i + 6).toNat) (xs (i + 7).toNat) (zE 0) (zE 0) h1)).trans m3
      rw [zm291_28, zscr_s (i := i) (j := 1) hS hL zE_1 (by omega) (by omega), zscr_s (i := i) (j := 2) hS hL zE_2 (by omega) (by omega), zscr_s (i := i) (j := 3) hS hL zE_3 (by omega) (by omega), zscr_s (i := i) (j := 4) hS hL zE_4 (by omega) (by omega), zscr_s (i := i) (j := 5) hS hL zE_5 (by omega) (by omega), zscr_s (i := i) (j := 6) hS hL zE_6 (by omega) (by omega), zscr_s (i := i) (j := 7) hS hL zE_7 (by omega) (by omega), zscr_s (i := i) (j := 8) hS hL zE_8 (by omega) (by omega), qy8, if_pos rfl, zm291_73, zscr_s (i := i) (j := 9) hS hL zE_9 (by omega) (by omega), qy9, if_pos rfl, zm291_82, w2, zb2_s, zscr_s (i := i) (j := 1) hS1 hL zE_1 (by omega) (by omega), zscr_s (i := i) (j := 2) hS1 hL zE_2 (by omega) (by omega), zscr_s (i := i) (j := 3) hS1 hL zE_3 (by omega) (by omega), zscr_s (i := i) (j := 4) hS1 hL zE_4 (by omega) (by omega), zscr_s (i := i) (j := 5) hS1 hL zE_5 (by omega) (by omega), zscr_s (i := i) (j := 6) hS1 hL zE_6 (by omega) (by omega), zscr_s (i := i) (j := 7) hS1 hL zE_7 (by omega) (by omega), zscr_s (i := i) (j := 8) hS1 hL zE_8 (by omega) (by omega), qy8, if_pos rfl, zm291_130, zscr_s (i := i) (j := 9) hS1 hL zE_9 (by omega) (by omega), qy9, if_pos rfl, zm291_139, zo_13, m8, zb_s, zo_13, zthr m4, zb_s, m2, if_pos rfl, if_neg tz, zgo]
    · show zm291_28 k _ _ _ _ _ _ _ = _
      have w2 : zm241 (some (12, 0)) (xs (i + 1).toNat) (xs (i + 2).toNat) (xs (i + 3).toNat) (xs (i + 4).toNat) (xs (i + 5).toNat) (xs (i + 6).toNat) (xs (i + 7).toNat) (0 : Int32) (1 : Int32) (some (38, 0)) h = _ := (congrArg (fun x => x) (by simp only [zE_0, zE_1] : zm241 (some (12, 0)) (xs (i + 1).toNat) (xs (i + 2).toNat) (xs (i + 3).toNat) (xs (i + 4).toNat) (xs (i + 5).toNat) (xs (i + 6).toNat) (xs (i + 7).toNat) (0 : Int32) (1 : Int32) (some (38, 0)) h = zm241 (some (12, 0)) (xs (i + 1).toNat) (xs (i + 2).toNat) (xs (i + 3).toNat) (xs (i + 4).toNat) (xs (i + 5).toNat) (xs (i + 6).toNat) (xs (i + 7).toNat) (zE 0) (zE 1) (some (38, 0)) h)).trans w1
      have m8 : zm145 (some (13, 0)) (xs (i + 1).toNat) (xs (i + 2).toNat) (xs (i + 3).toNat) (xs (i + 4).toNat) (xs (i + 5).toNat) (xs (i + 6).toNat) (xs (i + 7).toNat) (0 : Int32) (1 : Int32) h1 = _ := (congrArg (fun x => x) (by simp only [zE_0, zE_1] : zm145 (some (13, 0)) (xs (i + 1).toNat) (xs (i + 2).toNat) (xs (i + 3).toNat) (xs (i + 4).toNat) (xs (i + 5).toNat) (xs (i + 6).toNat) (xs (i + 7).toNat) (0 : Int32) (1 : Int32) h1 = zm145 (some (13, 0)) (xs (i + 1).toNat) (xs (i + 2).toNat) (xs (i + 3).toNat) (xs (i + 4).toNat) (xs (i + 5).toNat) (xs (i + 6).toNat) (xs (i + 7).toNat) (zE 0) (zE 1) h1)).trans m3
      rw [zm291_28, zscr_s (i := i) (j := 1) hS hL zE_1 (by omega) (by omega), zscr_s (i := i) (j := 2) hS hL zE_2 (by omega) (by omega), zscr_s (i := i) (j := 3) hS hL zE_3 (by omega) (by omega), zscr_s (i := i) (j := 4) hS hL zE_4 (by omega) (by omega), zscr_s (i := i) (j := 5) hS hL zE_5 (by omega) (by omega), zscr_s (i := i) (j := 6) hS hL zE_6 (by omega) (by omega), zscr_s (i := i) (j := 7) hS hL zE_7 (by omega) (by omega), zscr_s (i := i) (j := 8) hS hL zE_8 (by omega) (by omega), qy8, if_pos rfl, zm291_73, zscr_s (i := i) (j := 9) hS hL zE_9 (by omega) (by omega), qy9, if_neg q2, zm291_82, w2, zb2_s, zscr_s (i := i) (j := 1) hS1 hL zE_1 (by omega) (by omega), zscr_s (i := i) (j := 2) hS1 hL zE_2 (by omega) (by omega), zscr_s (i := i) (j := 3) hS1 hL zE_3 (by omega) (by omega), zscr_s (i := i) (j := 4) hS1 hL zE_4 (by omega) (by omega), zscr_s (i := i) (j := 5) hS1 hL zE_5 (by omega) (by omega), zscr_s (i := i) (j := 6) hS1 hL zE_6 (by omega) (by omega), zscr_s (i := i) (j := 7) hS1 hL zE_7 (by omega) (by omega), zscr_s (i := i) (j := 8) hS1 hL zE_8 (by omega) (by omega), qy8, if_pos rfl, zm291_130, zscr_s (i := i) (j := 9) hS1 hL zE_9 (by omega) (by omega), qy9, if_neg q2, zm291_139, zo_13, m8, zb_s, zo_13, zthr m4, zb_s, m2, if_pos rfl, if_neg tz, zgo]
    · show zm291_28 k _ _ _ _ _ _ _ = _
      have w2 : zm241 (some (12, 0)) (xs (i + 1).toNat) (xs (i + 2).toNat) (xs (i + 3).toNat) (xs (i + 4).toNat) (xs (i + 5).toNat) (xs (i + 6).toNat) (xs (i + 7).toNat) (1 : Int32) (0 : Int32) (some (38, 0)) h = _ := (congrArg (fun x => x) (by simp only [zE_0, zE_1] : zm241 (some (12, 0)) (xs (i + 1).toNat) (xs (i + 2).toNat) (xs (i + 3).toNat) (xs (i + 4).toNat) (xs (i + 5).toNat) (xs (i + 6).toNat) (xs (i + 7).toNat) (1 : Int32) (0 : Int32) (some (38, 0)) h = zm241 (some (12, 0)) (xs (i + 1).toNat) (xs (i + 2).toNat) (xs (i + 3).toNat) (xs (i + 4).toNat) (xs (i + 5).toNat) (xs (i + 6).toNat) (xs (i + 7).toNat) (zE 1) (zE 0) (some (38, 0)) h)).trans w1
      have m8 : zm145 (some (13, 0)) (xs (i + 1).toNat) (xs (i + 2).toNat) (xs (i + 3).toNat) (xs (i + 4).toNat) (xs (i + 5).toNat) (xs (i + 6).toNat) (xs (i + 7).toNat) (1 : Int32) (0 : Int32) h1 = _ := (congrArg (fun x => x) (by simp only [zE_0, zE_1] : zm145 (some (13, 0)) (xs (i + 1).toNat) (xs (i + 2).toNat) (xs (i + 3).toNat) (xs (i + 4).toNat) (xs (i + 5).toNat) (xs (i + 6).toNat) (xs (i + 7).toNat) (1 : Int32) (0 : Int32) h1 = zm145 (some (13, 0)) (xs (i + 1).toNat) (xs (i + 2).toNat) (xs (i + 3).toNat) (xs (i + 4).toNat) (xs (i + 5).toNat) (xs (i + 6).toNat) (xs (i + 7).toNat) (zE 1) (zE 0) h1)).trans m3
      rw [zm291_28, zscr_s (i := i) (j := 1) hS hL zE_1 (by omega) (by omega), zscr_s (i := i) (j := 2) hS hL zE_2 (by omega) (by omega), zscr_s (i := i) (j := 3) hS hL zE_3 (by omega) (by omega), zscr_s (i := i) (j := 4) hS hL zE_4 (by omega) (by omega), zscr_s (i := i) (j := 5) hS hL zE_5 (by omega) (by omega), zscr_s (i := i) (j := 6) hS hL zE_6 (by omega) (by omega), zscr_s (i := i) (j := 7) hS hL zE_7 (by omega) (by omega), zscr_s (i := i) (j := 8) hS hL zE_8 (by omega) (by omega), qy8, if_neg q2, zm291_73, zscr_s (i := i) (j := 9) hS hL zE_9 (by omega) (by omega), qy9, if_pos rfl, zm291_82, w2, zb2_s, zscr_s (i := i) (j := 1) hS1 hL zE_1 (by omega) (by omega), zscr_s (i := i) (j := 2) hS1 hL zE_2 (by omega) (by omega), zscr_s (i := i) (j := 3) hS1 hL zE_3 (by omega) (by omega), zscr_s (i := i) (j := 4) hS1 hL zE_4 (by omega) (by omega), zscr_s (i := i) (j := 5) hS1 hL zE_5 (by omega) (by omega), zscr_s (i := i) (j := 6) hS1 hL zE_6 (by omega) (by omega), zscr_s (i := i) (j := 7) hS1 hL zE_7 (by omega) (by omega), zscr_s (i := i) (j := 8) hS1 hL zE_8 (by omega) (by omega), qy8, if_neg q2, zm291_130, zscr_s (i := i) (j := 9) hS1 hL zE_9 (by omega) (by omega), qy9, if_pos rfl, zm291_139, zo_13, m8, zb_s, zo_13, zthr m4, zb_s, m2, if_pos rfl, if_neg tz, zgo]
    · show zm291_28 k _ _ _ _ _ _ _ = _
      have w2 : zm241 (some (12, 0)) (xs (i + 1).toNat) (xs (i + 2).toNat) (xs (i + 3).toNat) (xs (i + 4).toNat) (xs (i + 5).toNat) (xs (i + 6).toNat) (xs (i + 7).toNat) (1 : Int32) (1 : Int32) (some (38, 0)) h = _ := (congrArg (fun x => x) (by simp only [zE_0, zE_1] : zm241 (some (12, 0)) (xs (i + 1).toNat) (xs (i + 2).toNat) (xs (i + 3).toNat) (xs (i + 4).toNat) (xs (i + 5).toNat) (xs (i + 6).toNat) (xs (i + 7).toNat) (1 : Int32) (1 : Int32) (some (38, 0)) h = zm241 (some (12, 0)) (xs (i + 1).toNat) (xs (i + 2).toNat) (xs (i + 3).toNat) (xs (i + 4).toNat) (xs (i + 5).toNat) (xs (i + 6).toNat) (xs (i + 7).toNat) (zE 1) (zE 1) (some (38, 0)) h)).trans w1
      have m8 : zm145 (some (13, 0)) (xs (i + 1).toNat) (xs (i + 2).toNat) (xs (i + 3).toNat) (xs (i + 4).toNat) (xs (i + 5).toNat) (xs (i + 6).toNat) (xs (i + 7).toNat) (1 : Int32) (1 : Int32) h1 = _ := (congrArg (fun x => x) (by simp only [zE_0, zE_1] : zm145 (some (13, 0)) (xs (i + 1).toNat) (xs (i + 2).toNat) (xs (i + 3).toNat) (xs (i + 4).toNat) (xs (i + 5).toNat) (xs (i + 6).toNat) (xs (i + 7).toNat) (1 : Int32) (1 : Int32) h1 = zm145 (some (13, 0)) (xs (i + 1).toNat) (xs (i + 2).toNat) (xs (i + 3).toNat) (xs (i + 4).toNat) (xs (i + 5).toNat) (xs (i + 6).toNat) (xs (i + 7).toNat) (zE 1) (zE 1) h1)).trans m3
      rw [zm291_28, zscr_s (i := i) (j := 1) hS hL zE_1 (by omega) (by omega), zscr_s (i := i) (j := 2) hS hL zE_2 (by omega) (by omega), zscr_s (i := i) (j := 3) hS hL zE_3 (by omega) (by omega), zscr_s (i := i) (j := 4) hS hL zE_4 (by omega) (by omega), zscr_s (i := i) (j := 5) hS hL zE_5 (by omega) (by omega), zscr_s (i := i) (j := 6) hS hL zE_6 (by omega) (by omega), zscr_s (i := i) (j := 7) hS hL zE_7 (by omega) (by omega), zscr_s (i := i) (j := 8) hS hL zE_8 (by omega) (by omega), qy8, if_neg q2, zm291_73, zscr_s (i := i) (j := 9) hS hL zE_9 (by omega) (by omega), qy9, if_neg q2, zm291_82, w2, zb2_s, zscr_s (i := i) (j := 1) hS1 hL zE_1 (by omega) (by omega), zscr_s (i := i) (j := 2) hS1 hL zE_2 (by omega) (by omega), zscr_s (i := i) (j := 3) hS1 hL zE_3 (by omega) (by omega), zscr_s (i := i) (j := 4) hS1 hL zE_4 (by omega) (by omega), zscr_s (i := i) (j := 5) hS1 hL zE_5 (by omega) (by omega), zscr_s (i := i) (j := 6) hS1 hL zE_6 (by omega) (by omega), zscr_s (i := i) (j := 7) hS1 hL zE_7 (by omega) (by omega), zscr_s (i := i) (j := 8) hS1 hL zE_8 (by omega) (by omega), qy8, if_neg q2, zm291_130, zscr_s (i := i) (j := 9) hS1 hL zE_9 (by omega) (by omega), qy9, if_neg q2, zm291_139, zo_13, m8, zb_s, zo_13, zthr m4, zb_s, m2, if_pos rfl, if_neg tz, zgo]
set_option maxHeartbeats 400000 in
theorem zcase_14 (hp : ∀ qb1 : Int, (qb1 = 0 ∨ qb1 = 1) → zPrV (fun h => zm81 (some (12, 0)) (zE qb1) h) (fun h => zm187 (some (13, 0)) (zE qb1) h) (fun t => 1) 1) : zCase fun k => zm291_639 k := by
  intro L xs h s i k hL hI h0 h1
  obtain ⟨hC, hM, hW, hS⟩ := hI
  obtain ⟨qb1, qr1, qy1⟩ := zbt01 (xs (i + 1).toNat)
  obtain ⟨t, s', t0, t3, hW', hc, hm⟩ := hp  qb1 qr1 h s hC hM hW
  have hx : ∀ t : Int, 1 ≤ t → t ≤ 1 → zhnd [(0, 3, 1, 1)] 2 ((fun t => 1) t) = some t.toNat := by
    intro t a b
    obtain rfl : t = 1 := by omega
    rfl
  have q2 : ¬ (1 : Int) = 0 := by decide
  have q1 : ¬ zE 1 = zE 0 := by decide
  rcases hc with ⟨rfl, h1, e1, c1, k1, r1, r2⟩ | ⟨tn, h1, e1, c1, k1, r1, r2⟩
  · have hS1 := zSc_1 hS k1
    dsimp only at e1
    have hS2 : zSc L xs h1 := hS1
    obtain ⟨s'', m1, m2, h3, m3, m4, m5, m6, m7⟩ := hm h1 (zMd_1 hM k1)
    dsimp only at m3
    have hI3 := zinv_end hS c1 k1 (fun k _ _ => ⟨rfl, rfl, rfl, rfl, rfl, rfl⟩) ⟨rfl, rfl⟩ m1 m4 m5 hW'
    refine ⟨h3, s'', hI3, by have a1 : zce h1 = zce h1 := rfl; have a2 : zso h1 = zso h1 := rfl; omega, by have a1 : zce h1 = zce h1 := rfl; have a2 : zso h1 = zso h1 := rfl; omega, ?_⟩
    have w1 : zm254 (some (12, 0)) (zE qb1) h = some (.inl (zE 0), h1) := by
      simp only [zm254, ↓zo_12, e1, zbH_s]
      rw [zE_0]
    rcases qr1 with rfl | rfl
    · show zm291_639 k _ _ _ _ _ _ _ = _
      have w2 : zm254 (some (12, 0)) (0 : Int32) h = _ := (congrArg (fun x => x) (by simp only [zE_0, zE_1] : zm254 (some (12, 0)) (0 : Int32) h = zm254 (some (12, 0)) (zE 0) h)).trans w1
      have m8 : zm187 (some (13, 0)) (0 : Int32) h1 = _ := (congrArg (fun x => x) (by simp only [zE_0, zE_1] : zm187 (some (13, 0)) (0 : Int32) h1 = zm187 (some (13, 0)) (zE 0) h1)).trans m3
      rw [zm291_639, zscr_s (i := i) (j := 1) hS hL zE_1 (by omega) (by omega), qy1, if_pos rfl, zm291_649, w2, zb2_s, zscr_s (i := i) (j := 1) hS2 hL zE_1 (by omega) (by omega), qy1, if_pos rfl, zm291_661, zo_13, m8, zb_s, zo_13, zthr m4, zb_s, m2, if_pos rfl, zgo]
    · show zm291_639 k _ _ _ _ _ _ _ = _
      have w2 : zm254 (some (12, 0)) (1 : Int32) h = _ := (congrArg (fun x => x) (by simp only [zE_0, zE_1] : zm254 (some (12, 0)) (1 : Int32) h = zm254 (some (12, 0)) (zE 1) h)).trans w1
      have m8 : zm187 (some (13, 0)) (1 : Int32) h1 = _ := (congrArg (fun x => x) (by simp only [zE_0, zE_1] : zm187 (some (13, 0)) (1 : Int32) h1 = zm187 (some (13, 0)) (zE 1) h1)).trans m3
      rw [zm291_639, zscr_s (i := i) (j := 1) hS hL zE_1 (by omega) (by omega), qy1, if_neg q2, zm291_649, w2, zb2_s, zscr_s (i := i) (j := 1) hS2 hL zE_1 (by omega) (by omega), qy1, if_neg q2, zm291_661, zo_13, m8, zb_s, zo_13, zthr m4, zb_s, m2, if_pos rfl, zgo]
  · have hS1 := zSc_1 hS k1
    dsimp only at e1
    obtain ⟨s'', m1, m2, h3, m3, m4, m5, m6, m7⟩ := hm h1 (zMd_1 hM k1)
    dsimp only at m3
    have hI3 := zinv_end hS c1 k1 (fun k _ _ => ⟨rfl, rfl, rfl, rfl, rfl, rfl⟩) ⟨rfl, rfl⟩ m1 m4 m5 hW'
    refine ⟨h3, s'', hI3, by omega, by omega, ?_⟩
    have e2 : nI t.toNat = zE t := by rw [zE_nI, Int.toNat_of_nonneg t0]
    have w1 : zm254 (some (12, 0)) (zE qb1) h = some (.inl (zE t), h1) := by
      simp only [zm254, ↓zo_12, e1]
      rw [zbH_x (hx t (by omega) t3), e2]
    have tz : ¬ zE t = 0 := by rw [zE_0, zE_inj (by omega) (by omega) (by omega) (by omega)]; exact tn
    rcases qr1 with rfl | rfl
    · show zm291_639 k _ _ _ _ _ _ _ = _
      have w2 : zm254 (some (12, 0)) (0 : Int32) h = _ := (congrArg (fun x => x) (by simp only [zE_0, zE_1] : zm254 (some (12, 0)) (0 : Int32) h = zm254 (some (12, 0)) (zE 0) h)).trans w1
      have m8 : zm187 (some (13, 0)) (0 : Int32) h1 = _ := (congrArg (fun x => x) (by simp only [zE_0, zE_1] : zm187 (some (13, 0)) (0 : Int32) h1 = zm187 (some (13, 0)) (zE 0) h1)).trans m3
      rw [zm291_639, zscr_s (i := i) (j := 1) hS hL zE_1 (by omega) (by omega), qy1, if_pos rfl, zm291_649, w2, zb2_s, zscr_s (i := i) (j := 1) hS1 hL zE_1 (by omega) (by omega), qy1, if_pos rfl, zm291_661, zo_13, m8, zb_s, zo_13, zthr m4, zb_s, m2, if_pos rfl, zgo]
    · show zm291_639 k _ _ _ _ _ _ _ = _
      have w2 : zm254 (some (12, 0)) (1 : Int32) h = _ := (congrArg (fun x => x) (by simp only [zE_0, zE_1] : zm254 (some (12, 0)) (1 : Int32) h = zm254 (some (12, 0)) (zE 1) h)).trans w1
      have m8 : zm187 (some (13, 0)) (1 : Int32) h1 = _ := (congrArg (fun x => x) (by simp only [zE_0, zE_1] : zm187 (some (13, 0)) (1 : Int32) h1 = zm187 (some (13, 0)) (zE 1) h1)).trans m3
      rw [zm291_639, zscr_s (i := i) (j := 1) hS hL zE_1 (by omega) (by omega), qy1, if_neg q2, zm291_649, w2, zb2_s, zscr_s (i := i) (j := 1) hS1 hL zE_1 (by omega) (by omega), qy1, if_neg q2, zm291_661, zo_13, m8, zb_s, zo_13, zthr m4, zb_s, m2, if_pos rfl, zgo]
set_option maxHeartbeats 400000 in
theorem zcase_31 (hp : ∀ x1 x2 x5 : Int32, ∀ qb3 : Int, (qb3 = 0 ∨ qb3 = 1) → ∀ qb4 : Int, (qb4 = 0 ∨ qb4 = 1) → zPrI (fun h => zm101 (some (12, 0)) x1 x2 (zE qb3) (zE qb4) x5 h) (fun h => zm209 (some (13, 0)) x1 x2 (zE qb3) (zE qb4) x5 h) (fun t => if t = 1 then 0 else 1) 2) : zCase fun k => zm291_1254 k := by
  intro L xs h s i k hL hI h0 h1
  obtain ⟨hC, hM, hW, hS⟩ := hI
  obtain ⟨qb3, qr3, qy3⟩ := zbt01 (xs (i + 3).toNat)
  obtain ⟨qb4, qr4, qy4⟩ := zbt01 (xs (i + 4).toNat)
  obtain ⟨t, v, w, s', t0, t3, hW', hc, hwv, hm⟩ := hp (xs (i + 1).toNat) (xs (i + 2).toNat) (xs (i + 5).toNat) qb3 qr3 qb4 qr4 h s hC hM hW
  have hx : ∀ t : Int, 1 ≤ t → t ≤ 2 → zhnd [(0, 11, 0, 1), (0, 11, 1, 2)] 8 ((fun t => if t = 1 then 0 else 1) t) = some t.toNat := by
    intro t a b
    rcases (show t = 1 ∨ t = 2 by omega) with rfl | rfl <;> rfl
  have q2 : ¬ (1 : Int) = 0 := by decide
  have q1 : ¬ zE 1 = zE 0 := by decide
  rcases hc with ⟨rfl, h1, e1, c1, k1, r1, r2⟩ | ⟨tn, h1, e1, c1, k1, r1, r2⟩
  · have hS1 := zSc_1 hS k1
    dsimp only at e1
    have hS2 : zSc L xs (zsl h1 38 0 0 (zE v).toInt64) := hS1
    have hk2 : ∀ k, k ≠ 38 → k ≠ 39 → zct (zsl h1 38 0 0 (zE v).toInt64) k = zct h1 k ∧ zln (zsl h1 38 0 0 (zE v).toInt64) k = zln h1 k ∧ zi (zsl h1 38 0 0 (zE v).toInt64) k = zi h1 k ∧ zr (zsl h1 38 0 0 (zE v).toInt64) k = zr h1 k ∧ zd (zsl h1 38 0 0 (zE v).toInt64) k = zd h1 k ∧ zl (zsl h1 38 0 0 (zE v).toInt64) k = zl h1 k := fun k a _ => ⟨rfl, rfl, rfl, rfl, rfl, zu_k a⟩
    obtain ⟨s'', m1, m2, h3, m3, m4, m5, m6, m7⟩ := hm (zsl h1 38 0 0 (zE v).toInt64) (show zMd h1 s from zMd_1 hM k1)
    dsimp only at m3
    have hI3 := zinv_end hS c1 k1 hk2 ⟨rfl, rfl⟩ m1 m4 m5 hW'
    have hl3 : zl h3 38 0 0 = (zE v).toInt64 := by
      rw [(m5 38 (by unfold zpm1; omega)).2.2.2.2.2]
      exact zl_sl
    refine ⟨h3, s'', hI3, by have a1 : zce (zsl h1 38 0 0 (zE v).toInt64) = zce h1 := rfl; have a2 : zso (zsl h1 38 0 0 (zE v).toInt64) = zso h1 := rfl; omega, by have a1 : zce (zsl h1 38 0 0 (zE v).toInt64) = zce h1 := rfl; have a2 : zso (zsl h1 38 0 0 (zE v).toInt64) = zso h1 := rfl; omega, ?_⟩
    have w1 : zm269 (some (12, 0)) (xs (i + 1).toNat) (xs (i + 2).toNat) (zE qb3) (zE qb4) (xs (i + 5).toNat) (some (38, 0)) h = some (.inl (zE 0), (zsl h1 38 0 0 (zE v).toInt64)) := by
      simp only [zm269, ↓zo_12, e1, zbH_s, ↓zout_s hS1, ↓zlet_s]
      rw [zE_0]
    rcases qr3 with rfl | rfl <;> rcases qr4 with rfl | rfl
    · show zm291_1254 k _ _ _ _ _ _ _ = _
      have w2 : zm269 (some (12, 0)) (xs (i + 1).toNat) (xs (i + 2).toNat) (0 : Int32) (0 : Int32) (xs (i + 5).toNat) (some (38, 0)) h = _ := (congrArg (fun x => x) (by simp only [zE_0, zE_1] : zm269 (some (12, 0)) (xs (i + 1).toNat) (xs (i + 2).toNat) (0 : Int32) (0 : Int32) (xs (i + 5).toNat) (some (38, 0)) h = zm269 (some (12, 0)) (xs (i + 1).toNat) (xs (i + 2).toNat) (zE 0) (zE 0) (xs (i + 5).toNat) (some (38, 0)) h)).trans w1
      have m8 : zm209 (some (13, 0)) (xs (i + 1).toNat) (xs (i + 2).toNat) (0 : Int32) (0 : Int32) (xs (i + 5).toNat) (zsl h1 38 0 0 (zE v).toInt64) = _ := (congrArg (fun x => x) (by simp only [zE_0, zE_1] : zm209 (some (13, 0)) (xs (i + 1).toNat) (xs (i + 2).toNat) (0 : Int32) (0 : Int32) (xs (i + 5).toNat) (zsl h1 38 0 0 (zE v).toInt64) = zm209 (some (13, 0)) (xs (i + 1).toNat) (xs (i + 2).toNat) (zE 0) (zE 0) (xs (i + 5).toNat) (zsl h1 38 0 0 (zE v).toInt64))).trans m3
      rw [zm291_1254, zscr_s (i := i) (j := 1) hS hL zE_1 (by omega) (by omega), zscr_s (i := i) (j := 2) hS hL zE_2 (by omega) (by omega), zscr_s (i := i) (j := 3) hS hL zE_3 (by omega) (by omega), qy3, if_pos rfl, zm291_1274, zscr_s (i := i) (j := 4) hS hL zE_4 (by omega) (by omega), qy4, if_pos rfl, zm291_1283, zscr_s (i := i) (j := 5) hS hL zE_5 (by omega) (by omega), w2, zb2_s, zscr_s (i := i) (j := 1) hS2 hL zE_1 (by omega) (by omega), zscr_s (i := i) (j := 2) hS2 hL zE_2 (by omega) (by omega), zscr_s (i := i) (j := 3) hS2 hL zE_3 (by omega) (by omega), qy3, if_pos rfl, zm291_1311, zscr_s (i := i) (j := 4) hS2 hL zE_4 (by omega) (by omega), qy4, if_pos rfl, zm291_1320, zscr_s (i := i) (j := 5) hS2 hL zE_5 (by omega) (by omega), zo_13, m8, zb_s, zo_13, zthr m4, zb_s, m2, if_pos rfl, if_pos zE_0.symm, zoutr_s hI3.2.2.2, hl3, hwv rfl, lg_cmp_e, if_pos rfl, zgo]
    · show zm291_1254 k _ _ _ _ _ _ _ = _
      have w2 : zm269 (some (12, 0)) (xs (i + 1).toNat) (xs (i + 2).toNat) (0 : Int32) (1 : Int32) (xs (i + 5).toNat) (some (38, 0)) h = _ := (congrArg (fun x => x) (by simp only [zE_0, zE_1] : zm269 (some (12, 0)) (xs (i + 1).toNat) (xs (i + 2).toNat) (0 : Int32) (1 : Int32) (xs (i + 5).toNat) (some (38, 0)) h = zm269 (some (12, 0)) (xs (i + 1).toNat) (xs (i + 2).toNat) (zE 0) (zE 1) (xs (i + 5).toNat) (some (38, 0)) h)).trans w1
      have m8 : zm209 (some (13, 0)) (xs (i + 1).toNat) (xs (i + 2).toNat) (0 : Int32) (1 : Int32) (xs (i + 5).toNat) (zsl h1 38 0 0 (zE v).toInt64) = _ := (congrArg (fun x => x) (by simp only [zE_0, zE_1] : zm209 (some (13, 0)) (xs (i + 1).toNat) (xs (i + 2).toNat) (0 : Int32) (1 : Int32) (xs (i + 5).toNat) (zsl h1 38 0 0 (zE v).toInt64) = zm209 (some (13, 0)) (xs (i + 1).toNat) (xs (i + 2).toNat) (zE 0) (zE 1) (xs (i + 5).toNat) (zsl h1 38 0 0 (zE v).toInt64))).trans m3
      rw [zm291_1254, zscr_s (i := i) (j := 1) hS hL zE_1 (by omega) (by omega), zscr_s (i := i) (j := 2) hS hL zE_2 (by omega) (by omega), zscr_s (i := i) (j := 3) hS hL zE_3 (by omega) (by omega), qy3, if_pos rfl, zm291_1274, zscr_s (i := i) (j := 4) hS hL zE_4 (by omega) (by omega), qy4, if_neg q2, zm291_1283, zscr_s (i := i) (j := 5) hS hL zE_5 (by omega) (by omega), w2, zb2_s, zscr_s (i := i) (j := 1) hS2 hL zE_1 (by omega) (by omega), zscr_s (i := i) (j := 2) hS2 hL zE_2 (by omega) (by omega), zscr_s (i := i) (j := 3) hS2 hL zE_3 (by omega) (by omega), qy3, if_pos rfl, zm291_1311, zscr_s (i := i) (j := 4) hS2 hL zE_4 (by omega) (by omega), qy4, if_neg q2, zm291_1320, zscr_s (i := i) (j := 5) hS2 hL zE_5 (by omega) (by omega), zo_13, m8, zb_s, zo_13, zthr m4, zb_s, m2, if_pos rfl, if_pos zE_0.symm, zoutr_s hI3.2.2.2, hl3, hwv rfl, lg_cmp_e, if_pos rfl, zgo]
    · show zm291_1254 k _ _ _ _ _ _ _ = _
      have w2 : zm269 (some (12, 0)) (xs (i + 1).toNat) (xs (i + 2).toNat) (1 : Int32) (0 : Int32) (xs (i + 5).toNat) (some (38, 0)) h = _ := (congrArg (fun x => x) (by simp only [zE_0, zE_1] : zm269 (some (12, 0)) (xs (i + 1).toNat) (xs (i + 2).toNat) (1 : Int32) (0 : Int32) (xs (i + 5).toNat) (some (38, 0)) h = zm269 (some (12, 0)) (xs (i + 1).toNat) (xs (i + 2).toNat) (zE 1) (zE 0) (xs (i + 5).toNat) (some (38, 0)) h)).trans w1
      have m8 : zm209 (some (13, 0)) (xs (i + 1).toNat) (xs (i + 2).toNat) (1 : Int32) (0 : Int32) (xs (i + 5).toNat) (zsl h1 38 0 0 (zE v).toInt64) = _ := (congrArg (fun x => x) (by simp only [zE_0, zE_1] : zm209 (some (13, 0)) (xs (i + 1).toNat) (xs (i + 2).toNat) (1 : Int32) (0 : Int32) (xs (i + 5).toNat) (zsl h1 38 0 0 (zE v).toInt64) = zm209 (some (13, 0)) (xs (i + 1).toNat) (xs (i + 2).toNat) (zE 1) (zE 0) (xs (i + 5).toNat) (zsl h1 38 0 0 (zE v).toInt64))).trans m3
      rw [zm291_1254, zscr_s (i := i) (j := 1) hS hL zE_1 (by omega) (by omega), zscr_s (i := i) (j := 2) hS hL zE_2 (by omega) (by omega), zscr_s (i := i) (j := 3) hS hL zE_3 (by omega) (by omega), qy3, if_neg q2, zm291_1274, zscr_s (i := i) (j := 4) hS hL zE_4 (by omega) (by omega), qy4, if_pos rfl, zm291_1283, zscr_s (i := i) (j := 5) hS hL zE_5 (by omega) (by omega), w2, zb2_s, zscr_s (i := i) (j := 1) hS2 hL zE_1 (by omega) (by omega), zscr_s (i := i) (j := 2) hS2 hL zE_2 (by omega) (by omega), zscr_s (i := i) (j := 3) hS2 hL zE_3 (by omega) (by omega), qy3, if_neg q2, zm291_1311, zscr_s (i := i) (j := 4) hS2 hL zE_4 (by omega) (by omega), qy4, if_pos rfl, zm291_1320, zscr_s (i := i) (j := 5) hS2 hL zE_5 (by omega) (by omega), zo_13, m8, zb_s, zo_13, zthr m4, zb_s, m2, if_pos rfl, if_pos zE_0.symm, zoutr_s hI3.2.2.2, hl3, hwv rfl, lg_cmp_e, if_pos rfl, zgo]
    · show zm291_1254 k _ _ _ _ _ _ _ = _
      have w2 : zm269 (some (12, 0)) (xs (i + 1).toNat) (xs (i + 2).toNat) (1 : Int32) (1 : Int32) (xs (i + 5).toNat) (some (38, 0)) h = _ := (congrArg (fun x => x) (by simp only [zE_0, zE_1] : zm269 (some (12, 0)) (xs (i + 1).toNat) (xs (i + 2).toNat) (1 : Int32) (1 : Int32) (xs (i + 5).toNat) (some (38, 0)) h = zm269 (some (12, 0)) (xs (i + 1).toNat) (xs (i + 2).toNat) (zE 1) (zE 1) (xs (i + 5).toNat) (some (38, 0)) h)).trans w1
      have m8 : zm209 (some (13, 0)) (xs (i + 1).toNat) (xs (i + 2).toNat) (1 : Int32) (1 : Int32) (xs (i + 5).toNat) (zsl h1 38 0 0 (zE v).toInt64) = _ := (congrArg (fun x => x) (by simp only [zE_0, zE_1] : zm209 (some (13, 0)) (xs (i + 1).toNat) (xs (i + 2).toNat) (1 : Int32) (1 : Int32) (xs (i + 5).toNat) (zsl h1 38 0 0 (zE v).toInt64) = zm209 (some (13, 0)) (xs (i + 1).toNat) (xs (i + 2).toNat) (zE 1) (zE 1) (xs (i + 5).toNat) (zsl h1 38 0 0 (zE v).toInt64))).trans m3
      rw [zm291_1254, zscr_s (i := i) (j := 1) hS hL zE_1 (by omega) (by omega), zscr_s (i := i) (j := 2) hS hL zE_2 (by omega) (by omega), zscr_s (i := i) (j := 3) hS hL zE_3 (by omega) (by omega), qy3, if_neg q2, zm291_1274, zscr_s (i := i) (j := 4) hS hL zE_4 (by omega) (by omega), qy4, if_neg q2, zm291_1283, zscr_s (i := i) (j := 5) hS hL zE_5 (by omega) (by omega), w2, zb2_s, zscr_s (i := i) (j := 1) hS2 hL zE_1 (by omega) (by omega), zscr_s (i := i) (j := 2) hS2 hL zE_2 (by omega) (by omega), zscr_s (i := i) (j := 3) hS2 hL zE_3 (by omega) (by omega), qy3, if_neg q2, zm291_1311, zscr_s (i := i) (j := 4) hS2 hL zE_4 (by omega) (by omega), qy4, if_neg q2, zm291_1320, zscr_s (i := i) (j := 5) hS2 hL zE_5 (by omega) (by omega), zo_13, m8, zb_s, zo_13, zthr m4, zb_s, m2, if_pos rfl, if_pos zE_0.symm, zoutr_s hI3.2.2.2, hl3, hwv rfl, lg_cmp_e, if_pos rfl, zgo]
  · have hS1 := zSc_1 hS k1
    dsimp only at e1
    obtain ⟨s'', m1, m2, h3, m3, m4, m5, m6, m7⟩ := hm h1 (zMd_1 hM k1)
    dsimp only at m3
    have hI3 := zinv_end hS c1 k1 (fun k _ _ => ⟨rfl, rfl, rfl, rfl, rfl, rfl⟩) ⟨rfl, rfl⟩ m1 m4 m5 hW'
    refine ⟨h3, s'', hI3, by omega, by omega, ?_⟩
    have e2 : nI t.toNat = zE t := by rw [zE_nI, Int.toNat_of_nonneg t0]
    have w1 : zm269 (some (12, 0)) (xs (i + 1).toNat) (xs (i + 2).toNat) (zE qb3) (zE qb4) (xs (i + 5).toNat) (some (38, 0)) h = some (.inl (zE t), h1) := by
      simp only [zm269, ↓zo_12, e1]
      rw [zbH_x (hx t (by omega) t3), e2]
    have tz : ¬ zE t = 0 := by rw [zE_0, zE_inj (by omega) (by omega) (by omega) (by omega)]; exact tn
    rcases qr3 with rfl | rfl <;> rcases qr4 with rfl | rfl
    · show zm291_1254 k _ _ _ _ _ _ _ = _
      have w2 : zm269 (some (12, 0)) (xs (i + 1).toNat) (xs (i + 2).toNat) (0 : Int32) (0 : Int32) (xs (i + 5).toNat) (some (38, 0)) h = _ := (congrArg (fun x => x) (by simp only [zE_0, zE_1] : zm269 (some (12, 0)) (xs (i + 1).toNat) (xs (i + 2).toNat) (0 : Int32) (0 : Int32) (xs (i + 5).toNat) (some (38, 0)) h = zm269 (some (12, 0)) (xs (i + 1).toNat) (xs (i + 2).toNat) (zE 0) (zE 0) (xs (i + 5).toNat) (some (38, 0)) h)).trans w1
      have m8 : zm209 (some (13, 0)) (xs (i + 1).toNat) (xs (i + 2).toNat) (0 : Int32) (0 : Int32) (xs (i + 5).toNat) h1 = _ := (congrArg (fun x => x) (by simp only [zE_0, zE_1] : zm209 (some (13, 0)) (xs (i + 1).toNat) (xs (i + 2).toNat) (0 : Int32) (0 : Int32) (xs (i + 5).toNat) h1 = zm209 (some (13, 0)) (xs (i + 1).toNat) (xs (i + 2).toNat) (zE 0) (zE 0) (xs (i + 5).toNat) h1)).trans m3
      rw [zm291_1254, zscr_s (i := i) (j := 1) hS hL zE_1 (by omega) (by omega), zscr_s (i := i) (j := 2) hS hL zE_2 (by omega) (by omega), zscr_s (i := i) (j := 3) hS hL zE_3 (by omega) (by omega), qy3, if_pos rfl, zm291_1274, zscr_s (i := i) (j := 4) hS hL zE_4 (by omega) (by omega), qy4, if_pos rfl, zm291_1283, zscr_s (i := i) (j := 5) hS hL zE_5 (by omega) (by omega), w2, zb2_s, zscr_s (i := i) (j := 1) hS1 hL zE_1 (by omega) (by omega), zscr_s (i := i) (j := 2) hS1 hL zE_2 (by omega) (by omega), zscr_s (i := i) (j := 3) hS1 hL zE_3 (by omega) (by omega), qy3, if_pos rfl, zm291_1311, zscr_s (i := i) (j := 4) hS1 hL zE_4 (by omega) (by omega), qy4, if_pos rfl, zm291_1320, zscr_s (i := i) (j := 5) hS1 hL zE_5 (by omega) (by omega), zo_13, m8, zb_s, zo_13, zthr m4, zb_s, m2, if_pos rfl, if_neg tz, zgo]
    · show zm291_1254 k _ _ _ _ _ _ _ = _
      have w2 : zm269 (some (12, 0)) (xs (i + 1).toNat) (xs (i + 2).toNat) (0 : Int32) (1 : Int32) (xs (i + 5).toNat) (some (38, 0)) h = _ := (congrArg (fun x => x) (by simp only [zE_0, zE_1] : zm269 (some (12, 0)) (xs (i + 1).toNat) (xs (i + 2).toNat) (0 : Int32) (1 : Int32) (xs (i + 5).toNat) (some (38, 0)) h = zm269 (some (12, 0)) (xs (i + 1).toNat) (xs (i + 2).toNat) (zE 0) (zE 1) (xs (i + 5).toNat) (some (38, 0)) h)).trans w1
      have m8 : zm209 (some (13, 0)) (xs (i + 1).toNat) (xs (i + 2).toNat) (0 : Int32) (1 : Int32) (xs (i + 5).toNat) h1 = _ := (congrArg (fun x => x) (by simp only [zE_0, zE_1] : zm209 (some (13, 0)) (xs (i + 1).toNat) (xs (i + 2).toNat) (0 : Int32) (1 : Int32) (xs (i + 5).toNat) h1 = zm209 (some (13, 0)) (xs (i + 1).toNat) (xs (i + 2).toNat) (zE 0) (zE 1) (xs (i + 5).toNat) h1)).trans m3
      rw [zm291_1254, zscr_s (i := i) (j := 1) hS hL zE_1 (by omega) (by omega), zscr_s (i := i) (j := 2) hS hL zE_2 (by omega) (by omega), zscr_s (i := i) (j := 3) hS hL zE_3 (by omega) (by omega), qy3, if_pos rfl, zm291_1274, zscr_s (i := i) (j := 4) hS hL zE_4 (by omega) (by omega), qy4, if_neg q2, zm291_1283, zscr_s (i := i) (j := 5) hS hL zE_5 (by omega) (by omega), w2, zb2_s, zscr_s (i := i) (j := 1) hS1 hL zE_1 (by omega) (by omega), zscr_s (i := i) (j := 2) hS1 hL zE_2 (by omega) (by omega), zscr_s (i := i) (j := 3) hS1 hL zE_3 (by omega) (by omega), qy3, if_pos rfl, zm291_1311, zscr_s (i := i) (j := 4) hS1 hL zE_4 (by omega) (by omega), qy4, if_neg q2, zm291_1320, zscr_s (i := i) (j := 5) hS1 hL zE_5 (by omega) (by omega), zo_13, m8, zb_s, zo_13, zthr m4, zb_s, m2, if_pos rfl, if_neg tz, zgo]
    · show zm291_1254 k _ _ _ _ _ _ _ = _
      have w2 : zm269 (some (12, 0)) (xs (i + 1).toNat) (xs (i + 2).toNat) (1 : Int32) (0 : Int32) (xs (i + 5).toNat) (some (38, 0)) h = _ := (congrArg (fun x => x) (by simp only [zE_0, zE_1] : zm269 (some (12, 0)) (xs (i + 1).toNat) (xs (i + 2).toNat) (1 : Int32) (0 : Int32) (xs (i + 5).toNat) (some (38, 0)) h = zm269 (some (12, 0)) (xs (i + 1).toNat) (xs (i + 2).toNat) (zE 1) (zE 0) (xs (i + 5).toNat) (some (38, 0)) h)).trans w1
      have m8 : zm209 (some (13, 0)) (xs (i + 1).toNat) (xs (i + 2).toNat) (1 : Int32) (0 : Int32) (xs (i + 5).toNat) h1 = _ := (congrArg (fun x => x) (by simp only [zE_0, zE_1] : zm209 (some (13, 0)) (xs (i + 1).toNat) (xs (i + 2).toNat) (1 : Int32) (0 : Int32) (xs (i + 5).toNat) h1 = zm209 (some (13, 0)) (xs (i + 1).toNat) (xs (i + 2).toNat) (zE 1) (zE 0) (xs (i + 5).toNat) h1)).trans m3
      rw [zm291_1254, zscr_s (i := i) (j := 1) hS hL zE_1 (by omega) (by omega), zscr_s (i := i) (j := 2) hS hL zE_2 (by omega) (by omega), zscr_s (i := i) (j := 3) hS hL zE_3 (by omega) (by omega), qy3, if_neg q2, zm291_1274, zscr_s (i := i) (j := 4) hS hL zE_4 (by omega) (by omega), qy4, if_pos rfl, zm291_1283, zscr_s (i := i) (j := 5) hS hL zE_5 (by omega) (by omega), w2, zb2_s, zscr_s (i := i) (j := 1) hS1 hL zE_1 (by omega) (by omega), zscr_s (i := i) (j := 2) hS1 hL zE_2 (by omega) (by omega), zscr_s (i := i) (j := 3) hS1 hL zE_3 (by omega) (by omega), qy3, if_neg q2, zm291_1311, zscr_s (i := i) (j := 4) hS1 hL zE_4 (by omega) (by omega), qy4, if_pos rfl, zm291_1320, zscr_s (i := i) (j := 5) hS1 hL zE_5 (by omega) (by omega), zo_13, m8, zb_s, zo_13, zthr m4, zb_s, m2, if_pos rfl, if_neg tz, zgo]
    · show zm291_1254 k _ _ _ _ _ _ _ = _
      have w2 : zm269 (some (12, 0)) (xs (i + 1).toNat) (xs (i + 2).toNat) (1 : Int32) (1 : Int32) (xs (i + 5).toNat) (some (38, 0)) h = _ := (congrArg (fun x => x) (by simp only [zE_0, zE_1] : zm269 (some (12, 0)) (xs (i + 1).toNat) (xs (i + 2).toNat) (1 : Int32) (1 : Int32) (xs (i + 5).toNat) (some (38, 0)) h = zm269 (some (12, 0)) (xs (i + 1).toNat) (xs (i + 2).toNat) (zE 1) (zE 1) (xs (i + 5).toNat) (some (38, 0)) h)).trans w1
      have m8 : zm209 (some (13, 0)) (xs (i + 1).toNat) (xs (i + 2).toNat) (1 : Int32) (1 : Int32) (xs (i + 5).toNat) h1 = _ := (congrArg (fun x => x) (by simp only [zE_0, zE_1] : zm209 (some (13, 0)) (xs (i + 1).toNat) (xs (i + 2).toNat) (1 : Int32) (1 : Int32) (xs (i + 5).toNat) h1 = zm209 (some (13, 0)) (xs (i + 1).toNat) (xs (i + 2).toNat) (zE 1) (zE 1) (xs (i + 5).toNat) h1)).trans m3
      rw [zm291_1254, zscr_s (i := i) (j := 1) hS hL zE_1 (by omega) (by omega), zscr_s (i := i) (j := 2) hS hL zE_2 (by omega) (by omega), zscr_s (i := i) (j := 3) hS hL zE_3 (by omega) (by omega), qy3, if_neg q2, zm291_1274, zscr_s (i := i) (j := 4) hS hL zE_4 (by omega) (by omega), qy4, if_neg q2, zm291_1283, zscr_s (i := i) (j := 5) hS hL zE_5 (by omega) (by omega), w2, zb2_s, zscr_s (i := i) (j := 1) hS1 hL zE_1 (by omega) (by omega), zscr_s (i := i) (j := 2) hS1 hL zE_2 (by omega) (by omega), zscr_s (i := i) (j := 3) hS1 hL zE_3 (by omega) (by omega), qy3, if_neg q2, zm291_1311, zscr_s (i := i) (j := 4) hS1 hL zE_4 (by omega) (by omega), qy4, if_neg q2, zm291_1320, zscr_s (i := i) (j := 5) hS1 hL zE_5 (by omega) (by omega), zo_13, m8, zb_s, zo_13, zthr m4, zb_s, m2, if_pos rfl, if_neg tz, zgo]
set_option maxHeartbeats 400000 in
theorem zcase_32 (hp : ∀ x1 x2 : Int32, zPrD (fun h => zm102 (some (12, 0)) x1 x2 h) (fun h => zm215 (some (13, 0)) x1 x2 h) (fun t => 0) 1) : zCase fun k => zm291_1345 k := by
  intro L xs h s i k hL hI h0 h1
  obtain ⟨hC, hM, hW, hS⟩ := hI
  obtain ⟨t, v, w, s', t0, t3, hW', hc, hwv, hm⟩ := hp (xs (i + 1).toNat) (xs (i + 2).toNat)  h s hC hM hW
  have hx : ∀ t : Int, 1 ≤ t → t ≤ 1 → zhnd [(0, 7, 0, 1)] 5 ((fun t => 0) t) = some t.toNat := by
    intro t a b
    obtain rfl : t = 1 := by omega
    rfl
  have q2 : ¬ (1 : Int) = 0 := by decide
  have q1 : ¬ zE 1 = zE 0 := by decide
  rcases hc with ⟨rfl, h1, e1, c1, k1, r1, r2⟩ | ⟨tn, h1, e1, c1, k1, r1, r2⟩
  · have hS1 := zSc_1 hS k1
    dsimp only at e1
    have hS2 : zSc L xs (zsd h1 39 0 0 v) := hS1
    have hk2 : ∀ k, k ≠ 38 → k ≠ 39 → zct (zsd h1 39 0 0 v) k = zct h1 k ∧ zln (zsd h1 39 0 0 v) k = zln h1 k ∧ zi (zsd h1 39 0 0 v) k = zi h1 k ∧ zr (zsd h1 39 0 0 v) k = zr h1 k ∧ zd (zsd h1 39 0 0 v) k = zd h1 k ∧ zl (zsd h1 39 0 0 v) k = zl h1 k := fun k _ a => ⟨rfl, rfl, rfl, rfl, zu_k a, rfl⟩
    obtain ⟨s'', m1, m2, h3, m3, m4, m5, m6, m7⟩ := hm (zsd h1 39 0 0 v) (show zMd h1 s from zMd_1 hM k1)
    dsimp only at m3
    have hI3 := zinv_end hS c1 k1 hk2 ⟨rfl, rfl⟩ m1 m4 m5 hW'
    have hl3 : zd h3 39 0 0 = v := by
      rw [(m5 39 (by unfold zpm1; omega)).2.2.2.2.1]
      exact zd_sd
    refine ⟨h3, s'', hI3, by have a1 : zce (zsd h1 39 0 0 v) = zce h1 := rfl; have a2 : zso (zsd h1 39 0 0 v) = zso h1 := rfl; omega, by have a1 : zce (zsd h1 39 0 0 v) = zce h1 := rfl; have a2 : zso (zsd h1 39 0 0 v) = zso h1 := rfl; omega, ?_⟩
    have w1 : zm270 (some (12, 0)) (xs (i + 1).toNat) (xs (i + 2).toNat) (some (39, 0)) h = some (.inl (zE 0), (zsd h1 39 0 0 v)) := by
      simp only [zm270, ↓zo_12, e1, zbH_s, ↓zoutd_s hS1, ↓zlet_s]
      rw [zE_0]
    have hwv := hwv rfl
    subst hwv
    · show zm291_1345 k _ _ _ _ _ _ _ = _
      have w2 := w1
      have m8 := m3
      rw [zm291_1345, zscr_s (i := i) (j := 1) hS hL zE_1 (by omega) (by omega), zscr_s (i := i) (j := 2) hS hL zE_2 (by omega) (by omega), w2, zb2_s, zscr_s (i := i) (j := 1) hS2 hL zE_1 (by omega) (by omega), zscr_s (i := i) (j := 2) hS2 hL zE_2 (by omega) (by omega), zo_13, m8, zb_s, zthr m4, zb_s, m2, if_pos rfl, if_pos zE_0.symm, zoutdr_s hI3.2.2.2, hl3]
      by_cases e : (Op.cmpValue (FP.dcmp w w) .l) = 0
      · rw [if_pos e, zgo]
      · rw [if_neg e, zoutdr_s hI3.2.2.2, hl3, zoutdr_s hI3.2.2.2, hl3, if_neg e, if_neg e, zgo]
  · have hS1 := zSc_1 hS k1
    dsimp only at e1
    obtain ⟨s'', m1, m2, h3, m3, m4, m5, m6, m7⟩ := hm h1 (zMd_1 hM k1)
    dsimp only at m3
    have hI3 := zinv_end hS c1 k1 (fun k _ _ => ⟨rfl, rfl, rfl, rfl, rfl, rfl⟩) ⟨rfl, rfl⟩ m1 m4 m5 hW'
    refine ⟨h3, s'', hI3, by omega, by omega, ?_⟩
    have e2 : nI t.toNat = zE t := by rw [zE_nI, Int.toNat_of_nonneg t0]
    have w1 : zm270 (some (12, 0)) (xs (i + 1).toNat) (xs (i + 2).toNat) (some (39, 0)) h = some (.inl (zE t), h1) := by
      simp only [zm270, ↓zo_12, e1]
      rw [zbH_x (hx t (by omega) t3), e2]
    have tz : ¬ zE t = 0 := by rw [zE_0, zE_inj (by omega) (by omega) (by omega) (by omega)]; exact tn
    · show zm291_1345 k _ _ _ _ _ _ _ = _
      have w2 := w1
      have m8 := m3
      rw [zm291_1345, zscr_s (i := i) (j := 1) hS hL zE_1 (by omega) (by omega), zscr_s (i := i) (j := 2) hS hL zE_2 (by omega) (by omega), w2, zb2_s, zscr_s (i := i) (j := 1) hS1 hL zE_1 (by omega) (by omega), zscr_s (i := i) (j := 2) hS1 hL zE_2 (by omega) (by omega), zo_13, m8, zb_s, zthr m4, zb_s, m2, if_pos rfl, if_neg tz, zgo]
set_option maxHeartbeats 400000 in
theorem zcase_35 (hp : ∀ x1 x2 : Int32, ∀ qb3 : Int, (qb3 = 0 ∨ qb3 = 1) → zPrF (fun h => zm105 (some (12, 0)) x1 x2 (zE qb3) h) (fun h => zm218 (some (13, 0)) x1 x2 (zE qb3) h) (fun t => 0) 1) : zCase fun k => zm291_1491 k := by
  intro L xs h s i k hL hI h0 h1
  obtain ⟨hC, hM, hW, hS⟩ := hI
  obtain ⟨qb3, qr3, qy3⟩ := zbt01 (xs (i + 3).toNat)
  obtain ⟨t, v, w, s', t0, t3, hW', hc, hwv, hm⟩ := hp (xs (i + 1).toNat) (xs (i + 2).toNat) qb3 qr3 h s hC hM hW
  have hx : ∀ t : Int, 1 ≤ t → t ≤ 1 → zhnd [(0, 9, 0, 1)] 6 ((fun t => 0) t) = some t.toNat := by
    intro t a b
    obtain rfl : t = 1 := by omega
    rfl
  have q2 : ¬ (1 : Int) = 0 := by decide
  have q1 : ¬ zE 1 = zE 0 := by decide
  rcases hc with ⟨rfl, h1, e1, c1, k1, r1, r2⟩ | ⟨tn, h1, e1, c1, k1, r1, r2⟩
  · have hS1 := zSc_1 hS k1
    dsimp only at e1
    have hS2 : zSc L xs (zsd h1 39 0 0 (FP.f2d v)) := hS1
    have hk2 : ∀ k, k ≠ 38 → k ≠ 39 → zct (zsd h1 39 0 0 (FP.f2d v)) k = zct h1 k ∧ zln (zsd h1 39 0 0 (FP.f2d v)) k = zln h1 k ∧ zi (zsd h1 39 0 0 (FP.f2d v)) k = zi h1 k ∧ zr (zsd h1 39 0 0 (FP.f2d v)) k = zr h1 k ∧ zd (zsd h1 39 0 0 (FP.f2d v)) k = zd h1 k ∧ zl (zsd h1 39 0 0 (FP.f2d v)) k = zl h1 k := fun k _ a => ⟨rfl, rfl, rfl, rfl, zu_k a, rfl⟩
    obtain ⟨s'', m1, m2, h3, m3, m4, m5, m6, m7⟩ := hm (zsd h1 39 0 0 (FP.f2d v)) (show zMd h1 s from zMd_1 hM k1)
    dsimp only at m3
    have hI3 := zinv_end hS c1 k1 hk2 ⟨rfl, rfl⟩ m1 m4 m5 hW'
    have hl3 : zd h3 39 0 0 = FP.f2d v := by
      rw [(m5 39 (by unfold zpm1; omega)).2.2.2.2.1]
      exact zd_sd
    refine ⟨h3, s'', hI3, by have a1 : zce (zsd h1 39 0 0 (FP.f2d v)) = zce h1 := rfl; have a2 : zso (zsd h1 39 0 0 (FP.f2d v)) = zso h1 := rfl; omega, by have a1 : zce (zsd h1 39 0 0 (FP.f2d v)) = zce h1 := rfl; have a2 : zso (zsd h1 39 0 0 (FP.f2d v)) = zso h1 := rfl; omega, ?_⟩
    have w1 : zm273 (some (12, 0)) (xs (i + 1).toNat) (xs (i + 2).toNat) (zE qb3) (some (39, 0)) h = some (.inl (zE 0), (zsd h1 39 0 0 (FP.f2d v))) := by
      simp only [zm273, ↓zo_12, e1, zbH_s]
      rw [zif_s (hwv rfl).2.1, zoutd_s hS1, zlet_s, zE_0]
    obtain ⟨hwv, g1, g2⟩ := hwv rfl
    subst hwv
    rcases qr3 with rfl | rfl
    · show zm291_1491 k _ _ _ _ _ _ _ = _
      have w2 : zm273 (some (12, 0)) (xs (i + 1).toNat) (xs (i + 2).toNat) (0 : Int32) (some (39, 0)) h = _ := (congrArg (fun x => x) (by simp only [zE_0, zE_1] : zm273 (some (12, 0)) (xs (i + 1).toNat) (xs (i + 2).toNat) (0 : Int32) (some (39, 0)) h = zm273 (some (12, 0)) (xs (i + 1).toNat) (xs (i + 2).toNat) (zE 0) (some (39, 0)) h)).trans w1
      have m8 : zm218 (some (13, 0)) (xs (i + 1).toNat) (xs (i + 2).toNat) (0 : Int32) (zsd h1 39 0 0 (FP.f2d w)) = _ := (congrArg (fun x => x) (by simp only [zE_0, zE_1] : zm218 (some (13, 0)) (xs (i + 1).toNat) (xs (i + 2).toNat) (0 : Int32) (zsd h1 39 0 0 (FP.f2d w)) = zm218 (some (13, 0)) (xs (i + 1).toNat) (xs (i + 2).toNat) (zE 0) (zsd h1 39 0 0 (FP.f2d w)))).trans m3
      rw [zm291_1491, zscr_s (i := i) (j := 1) hS hL zE_1 (by omega) (by omega), zscr_s (i := i) (j := 2) hS hL zE_2 (by omega) (by omega), zscr_s (i := i) (j := 3) hS hL zE_3 (by omega) (by omega), qy3, if_pos rfl, zm291_1511, w2, zb2_s, zscr_s (i := i) (j := 1) hS2 hL zE_1 (by omega) (by omega), zscr_s (i := i) (j := 2) hS2 hL zE_2 (by omega) (by omega), zscr_s (i := i) (j := 3) hS2 hL zE_3 (by omega) (by omega), qy3, if_pos rfl, zm291_1534, zo_13, m8, zb_s, zo_13, zthr m4, zb_s, m2, if_pos rfl, if_pos zE_0.symm, zoutdr_s hI3.2.2.2, hl3, zif_s g1, if_pos g2, zgo]
    · show zm291_1491 k _ _ _ _ _ _ _ = _
      have w2 : zm273 (some (12, 0)) (xs (i + 1).toNat) (xs (i + 2).toNat) (1 : Int32) (some (39, 0)) h = _ := (congrArg (fun x => x) (by simp only [zE_0, zE_1] : zm273 (some (12, 0)) (xs (i + 1).toNat) (xs (i + 2).toNat) (1 : Int32) (some (39, 0)) h = zm273 (some (12, 0)) (xs (i + 1).toNat) (xs (i + 2).toNat) (zE 1) (some (39, 0)) h)).trans w1
      have m8 : zm218 (some (13, 0)) (xs (i + 1).toNat) (xs (i + 2).toNat) (1 : Int32) (zsd h1 39 0 0 (FP.f2d w)) = _ := (congrArg (fun x => x) (by simp only [zE_0, zE_1] : zm218 (some (13, 0)) (xs (i + 1).toNat) (xs (i + 2).toNat) (1 : Int32) (zsd h1 39 0 0 (FP.f2d w)) = zm218 (some (13, 0)) (xs (i + 1).toNat) (xs (i + 2).toNat) (zE 1) (zsd h1 39 0 0 (FP.f2d w)))).trans m3
      rw [zm291_1491, zscr_s (i := i) (j := 1) hS hL zE_1 (by omega) (by omega), zscr_s (i := i) (j := 2) hS hL zE_2 (by omega) (by omega), zscr_s (i := i) (j := 3) hS hL zE_3 (by omega) (by omega), qy3, if_neg q2, zm291_1511, w2, zb2_s, zscr_s (i := i) (j := 1) hS2 hL zE_1 (by omega) (by omega), zscr_s (i := i) (j := 2) hS2 hL zE_2 (by omega) (by omega), zscr_s (i := i) (j := 3) hS2 hL zE_3 (by omega) (by omega), qy3, if_neg q2, zm291_1534, zo_13, m8, zb_s, zo_13, zthr m4, zb_s, m2, if_pos rfl, if_pos zE_0.symm, zoutdr_s hI3.2.2.2, hl3, zif_s g1, if_pos g2, zgo]
  · have hS1 := zSc_1 hS k1
    dsimp only at e1
    obtain ⟨s'', m1, m2, h3, m3, m4, m5, m6, m7⟩ := hm h1 (zMd_1 hM k1)
    dsimp only at m3
    have hI3 := zinv_end hS c1 k1 (fun k _ _ => ⟨rfl, rfl, rfl, rfl, rfl, rfl⟩) ⟨rfl, rfl⟩ m1 m4 m5 hW'
    refine ⟨h3, s'', hI3, by omega, by omega, ?_⟩
    have e2 : nI t.toNat = zE t := by rw [zE_nI, Int.toNat_of_nonneg t0]
    have w1 : zm273 (some (12, 0)) (xs (i + 1).toNat) (xs (i + 2).toNat) (zE qb3) (some (39, 0)) h = some (.inl (zE t), h1) := by
      simp only [zm273, ↓zo_12, e1]
      rw [zbH_x (hx t (by omega) t3), e2]
    have tz : ¬ zE t = 0 := by rw [zE_0, zE_inj (by omega) (by omega) (by omega) (by omega)]; exact tn
    rcases qr3 with rfl | rfl
    · show zm291_1491 k _ _ _ _ _ _ _ = _
      have w2 : zm273 (some (12, 0)) (xs (i + 1).toNat) (xs (i + 2).toNat) (0 : Int32) (some (39, 0)) h = _ := (congrArg (fun x => x) (by simp only [zE_0, zE_1] : zm273 (some (12, 0)) (xs (i + 1).toNat) (xs (i + 2).toNat) (0 : Int32) (some (39, 0)) h = zm273 (some (12, 0)) (xs (i + 1).toNat) (xs (i + 2).toNat) (zE 0) (some (39, 0)) h)).trans w1
      have m8 : zm218 (some (13, 0)) (xs (i + 1).toNat) (xs (i + 2).toNat) (0 : Int32) h1 = _ := (congrArg (fun x => x) (by simp only [zE_0, zE_1] : zm218 (some (13, 0)) (xs (i + 1).toNat) (xs (i + 2).toNat) (0 : Int32) h1 = zm218 (some (13, 0)) (xs (i + 1).toNat) (xs (i + 2).toNat) (zE 0) h1)).trans m3
      rw [zm291_1491, zscr_s (i := i) (j := 1) hS hL zE_1 (by omega) (by omega), zscr_s (i := i) (j := 2) hS hL zE_2 (by omega) (by omega), zscr_s (i := i) (j := 3) hS hL zE_3 (by omega) (by omega), qy3, if_pos rfl, zm291_1511, w2, zb2_s, zscr_s (i := i) (j := 1) hS1 hL zE_1 (by omega) (by omega), zscr_s (i := i) (j := 2) hS1 hL zE_2 (by omega) (by omega), zscr_s (i := i) (j := 3) hS1 hL zE_3 (by omega) (by omega), qy3, if_pos rfl, zm291_1534, zo_13, m8, zb_s, zo_13, zthr m4, zb_s, m2, if_pos rfl, if_neg tz, zgo]
    · show zm291_1491 k _ _ _ _ _ _ _ = _
      have w2 : zm273 (some (12, 0)) (xs (i + 1).toNat) (xs (i + 2).toNat) (1 : Int32) (some (39, 0)) h = _ := (congrArg (fun x => x) (by simp only [zE_0, zE_1] : zm273 (some (12, 0)) (xs (i + 1).toNat) (xs (i + 2).toNat) (1 : Int32) (some (39, 0)) h = zm273 (some (12, 0)) (xs (i + 1).toNat) (xs (i + 2).toNat) (zE 1) (some (39, 0)) h)).trans w1
      have m8 : zm218 (some (13, 0)) (xs (i + 1).toNat) (xs (i + 2).toNat) (1 : Int32) h1 = _ := (congrArg (fun x => x) (by simp only [zE_0, zE_1] : zm218 (some (13, 0)) (xs (i + 1).toNat) (xs (i + 2).toNat) (1 : Int32) h1 = zm218 (some (13, 0)) (xs (i + 1).toNat) (xs (i + 2).toNat) (zE 1) h1)).trans m3
      rw [zm291_1491, zscr_s (i := i) (j := 1) hS hL zE_1 (by omega) (by omega), zscr_s (i := i) (j := 2) hS hL zE_2 (by omega) (by omega), zscr_s (i := i) (j := 3) hS hL zE_3 (by omega) (by omega), qy3, if_neg q2, zm291_1511, w2, zb2_s, zscr_s (i := i) (j := 1) hS1 hL zE_1 (by omega) (by omega), zscr_s (i := i) (j := 2) hS1 hL zE_2 (by omega) (by omega), zscr_s (i := i) (j := 3) hS1 hL zE_3 (by omega) (by omega), qy3, if_neg q2, zm291_1534, zo_13, m8, zb_s, zo_13, zthr m4, zb_s, m2, if_pos rfl, if_neg tz, zgo]
set_option maxHeartbeats 400000 in
theorem zcase_46 (hp : ∀ x1 x2 x4 x5 : Int32, ∀ qb3 : Int, (qb3 = 0 ∨ qb3 = 1) → zPrI (fun h => zm117 (some (12, 0)) x1 x2 (zE qb3) x4 x5 h) (fun h => zm231 (some (13, 0)) x1 x2 (zE qb3) x4 x5 h) (fun t => if t = 1 then 0 else 1) 2) : zCase fun k => zm291_1999 k := by
  intro L xs h s i k hL hI h0 h1
  obtain ⟨hC, hM, hW, hS⟩ := hI
  obtain ⟨qb3, qr3, qy3⟩ := zbt01 (xs (i + 3).toNat)
  obtain ⟨t, v, w, s', t0, t3, hW', hc, hwv, hm⟩ := hp (xs (i + 1).toNat) (xs (i + 2).toNat) (xs (i + 4).toNat) (xs (i + 5).toNat) qb3 qr3 h s hC hM hW
  have hx : ∀ t : Int, 1 ≤ t → t ≤ 2 → zhnd [(0, 11, 0, 1), (0, 11, 1, 2)] 8 ((fun t => if t = 1 then 0 else 1) t) = some t.toNat := by
    intro t a b
    rcases (show t = 1 ∨ t = 2 by omega) with rfl | rfl <;> rfl
  have q2 : ¬ (1 : Int) = 0 := by decide
  have q1 : ¬ zE 1 = zE 0 := by decide
  rcases hc with ⟨rfl, h1, e1, c1, k1, r1, r2⟩ | ⟨tn, h1, e1, c1, k1, r1, r2⟩
  · have hS1 := zSc_1 hS k1
    dsimp only at e1
    have hS2 : zSc L xs (zsl h1 38 0 0 (zE v).toInt64) := hS1
    have hk2 : ∀ k, k ≠ 38 → k ≠ 39 → zct (zsl h1 38 0 0 (zE v).toInt64) k = zct h1 k ∧ zln (zsl h1 38 0 0 (zE v).toInt64) k = zln h1 k ∧ zi (zsl h1 38 0 0 (zE v).toInt64) k = zi h1 k ∧ zr (zsl h1 38 0 0 (zE v).toInt64) k = zr h1 k ∧ zd (zsl h1 38 0 0 (zE v).toInt64) k = zd h1 k ∧ zl (zsl h1 38 0 0 (zE v).toInt64) k = zl h1 k := fun k a _ => ⟨rfl, rfl, rfl, rfl, rfl, zu_k a⟩
    obtain ⟨s'', m1, m2, h3, m3, m4, m5, m6, m7⟩ := hm (zsl h1 38 0 0 (zE v).toInt64) (show zMd h1 s from zMd_1 hM k1)
    dsimp only at m3
    have hI3 := zinv_end hS c1 k1 hk2 ⟨rfl, rfl⟩ m1 m4 m5 hW'
    have hl3 : zl h3 38 0 0 = (zE v).toInt64 := by
      rw [(m5 38 (by unfold zpm1; omega)).2.2.2.2.2]
      exact zl_sl
    refine ⟨h3, s'', hI3, by have a1 : zce (zsl h1 38 0 0 (zE v).toInt64) = zce h1 := rfl; have a2 : zso (zsl h1 38 0 0 (zE v).toInt64) = zso h1 := rfl; omega, by have a1 : zce (zsl h1 38 0 0 (zE v).toInt64) = zce h1 := rfl; have a2 : zso (zsl h1 38 0 0 (zE v).toInt64) = zso h1 := rfl; omega, ?_⟩
    have w1 : zm284 (some (12, 0)) (xs (i + 1).toNat) (xs (i + 2).toNat) (zE qb3) (xs (i + 4).toNat) (xs (i + 5).toNat) (some (38, 0)) h = some (.inl (zE 0), (zsl h1 38 0 0 (zE v).toInt64)) := by
      simp only [zm284, ↓zo_12, e1, zbH_s, ↓zout_s hS1, ↓zlet_s]
      rw [zE_0]
    rcases qr3 with rfl | rfl
    · show zm291_1999 k _ _ _ _ _ _ _ = _
      have w2 : zm284 (some (12, 0)) (xs (i + 1).toNat) (xs (i + 2).toNat) (0 : Int32) (xs (i + 4).toNat) (xs (i + 5).toNat) (some (38, 0)) h = _ := (congrArg (fun x => x) (by simp only [zE_0, zE_1] : zm284 (some (12, 0)) (xs (i + 1).toNat) (xs (i + 2).toNat) (0 : Int32) (xs (i + 4).toNat) (xs (i + 5).toNat) (some (38, 0)) h = zm284 (some (12, 0)) (xs (i + 1).toNat) (xs (i + 2).toNat) (zE 0) (xs (i + 4).toNat) (xs (i + 5).toNat) (some (38, 0)) h)).trans w1
      have m8 : zm231 (some (13, 0)) (xs (i + 1).toNat) (xs (i + 2).toNat) (0 : Int32) (xs (i + 4).toNat) (xs (i + 5).toNat) (zsl h1 38 0 0 (zE v).toInt64) = _ := (congrArg (fun x => x) (by simp only [zE_0, zE_1] : zm231 (some (13, 0)) (xs (i + 1).toNat) (xs (i + 2).toNat) (0 : Int32) (xs (i + 4).toNat) (xs (i + 5).toNat) (zsl h1 38 0 0 (zE v).toInt64) = zm231 (some (13, 0)) (xs (i + 1).toNat) (xs (i + 2).toNat) (zE 0) (xs (i + 4).toNat) (xs (i + 5).toNat) (zsl h1 38 0 0 (zE v).toInt64))).trans m3
      rw [zm291_1999, zscr_s (i := i) (j := 1) hS hL zE_1 (by omega) (by omega), zscr_s (i := i) (j := 2) hS hL zE_2 (by omega) (by omega), zscr_s (i := i) (j := 3) hS hL zE_3 (by omega) (by omega), qy3, if_pos rfl, zm291_2019, zscr_s (i := i) (j := 4) hS hL zE_4 (by omega) (by omega), zscr_s (i := i) (j := 5) hS hL zE_5 (by omega) (by omega), w2, zb2_s, zscr_s (i := i) (j := 1) hS2 hL zE_1 (by omega) (by omega), zscr_s (i := i) (j := 2) hS2 hL zE_2 (by omega) (by omega), zscr_s (i := i) (j := 3) hS2 hL zE_3 (by omega) (by omega), qy3, if_pos rfl, zm291_2052, zscr_s (i := i) (j := 4) hS2 hL zE_4 (by omega) (by omega), zscr_s (i := i) (j := 5) hS2 hL zE_5 (by omega) (by omega), zo_13, m8, zb_s, zo_13, zthr m4, zb_s, m2, if_pos rfl, if_pos zE_0.symm, zoutr_s hI3.2.2.2, hl3, hwv rfl, lg_cmp_e, if_pos rfl, zgo]
    · show zm291_1999 k _ _ _ _ _ _ _ = _
      have w2 : zm284 (some (12, 0)) (xs (i + 1).toNat) (xs (i + 2).toNat) (1 : Int32) (xs (i + 4).toNat) (xs (i + 5).toNat) (some (38, 0)) h = _ := (congrArg (fun x => x) (by simp only [zE_0, zE_1] : zm284 (some (12, 0)) (xs (i + 1).toNat) (xs (i + 2).toNat) (1 : Int32) (xs (i + 4).toNat) (xs (i + 5).toNat) (some (38, 0)) h = zm284 (some (12, 0)) (xs (i + 1).toNat) (xs (i + 2).toNat) (zE 1) (xs (i + 4).toNat) (xs (i + 5).toNat) (some (38, 0)) h)).trans w1
      have m8 : zm231 (some (13, 0)) (xs (i + 1).toNat) (xs (i + 2).toNat) (1 : Int32) (xs (i + 4).toNat) (xs (i + 5).toNat) (zsl h1 38 0 0 (zE v).toInt64) = _ := (congrArg (fun x => x) (by simp only [zE_0, zE_1] : zm231 (some (13, 0)) (xs (i + 1).toNat) (xs (i + 2).toNat) (1 : Int32) (xs (i + 4).toNat) (xs (i + 5).toNat) (zsl h1 38 0 0 (zE v).toInt64) = zm231 (some (13, 0)) (xs (i + 1).toNat) (xs (i + 2).toNat) (zE 1) (xs (i + 4).toNat) (xs (i + 5).toNat) (zsl h1 38 0 0 (zE v).toInt64))).trans m3
      rw [zm291_1999, zscr_s (i := i) (j := 1) hS hL zE_1 (by omega) (by omega), zscr_s (i := i) (j := 2) hS hL zE_2 (by omega) (by omega), zscr_s (i := i) (j := 3) hS hL zE_3 (by omega) (by omega), qy3, if_neg q2, zm291_2019, zscr_s (i := i) (j := 4) hS hL zE_4 (by omega) (by omega), zscr_s (i := i) (j := 5) hS hL zE_5 (by omega) (by omega), w2, zb2_s, zscr_s (i := i) (j := 1) hS2 hL zE_1 (by omega) (by omega), zscr_s (i := i) (j := 2) hS2 hL zE_2 (by omega) (by omega), zscr_s (i := i) (j := 3) hS2 hL zE_3 (by omega) (by omega), qy3, if_neg q2, zm291_2052, zscr_s (i := i) (j := 4) hS2 hL zE_4 (by omega) (by omega), zscr_s (i := i) (j := 5) hS2 hL zE_5 (by omega) (by omega), zo_13, m8, zb_s, zo_13, zthr m4, zb_s, m2, if_pos rfl, if_pos zE_0.symm, zoutr_s hI3.2.2.2, hl3, hwv rfl, lg_cmp_e, if_pos rfl, zgo]
  · have hS1 := zSc_1 hS k1
    dsimp only at e1
    obtain ⟨s'', m1, m2, h3, m3, m4, m5, m6, m7⟩ := hm h1 (zMd_1 hM k1)
    dsimp only at m3
    have hI3 := zinv_end hS c1 k1 (fun k _ _ => ⟨rfl, rfl, rfl, rfl, rfl, rfl⟩) ⟨rfl, rfl⟩ m1 m4 m5 hW'
    refine ⟨h3, s'', hI3, by omega, by omega, ?_⟩
    have e2 : nI t.toNat = zE t := by rw [zE_nI, Int.toNat_of_nonneg t0]
    have w1 : zm284 (some (12, 0)) (xs (i + 1).toNat) (xs (i + 2).toNat) (zE qb3) (xs (i + 4).toNat) (xs (i + 5).toNat) (some (38, 0)) h = some (.inl (zE t), h1) := by
      simp only [zm284, ↓zo_12, e1]
      rw [zbH_x (hx t (by omega) t3), e2]
    have tz : ¬ zE t = 0 := by rw [zE_0, zE_inj (by omega) (by omega) (by omega) (by omega)]; exact tn
    rcases qr3 with rfl | rfl
    · show zm291_1999 k _ _ _ _ _ _ _ = _
      have w2 : zm284 (some (12, 0)) (xs (i + 1).toNat) (xs (i + 2).toNat) (0 : Int32) (xs (i + 4).toNat) (xs (i + 5).toNat) (some (38, 0)) h = _ := (congrArg (fun x => x) (by simp only [zE_0, zE_1] : zm284 (some (12, 0)) (xs (i + 1).toNat) (xs (i + 2).toNat) (0 : Int32) (xs (i + 4).toNat) (xs (i + 5).toNat) (some (38, 0)) h = zm284 (some (12, 0)) (xs (i + 1).toNat) (xs (i + 2).toNat) (zE 0) (xs (i + 4).toNat) (xs (i + 5).toNat) (some (38, 0)) h)).trans w1
      have m8 : zm231 (some (13, 0)) (xs (i + 1).toNat) (xs (i + 2).toNat) (0 : Int32) (xs (i + 4).toNat) (xs (i + 5).toNat) h1 = _ := (congrArg (fun x => x) (by simp only [zE_0, zE_1] : zm231 (some (13, 0)) (xs (i + 1).toNat) (xs (i + 2).toNat) (0 : Int32) (xs (i + 4).toNat) (xs (i + 5).toNat) h1 = zm231 (some (13, 0)) (xs (i + 1).toNat) (xs (i + 2).toNat) (zE 0) (xs (i + 4).toNat) (xs (i + 5).toNat) h1)).trans m3
      rw [zm291_1999, zscr_s (i := i) (j := 1) hS hL zE_1 (by omega) (by omega), zscr_s (i := i) (j := 2) hS hL zE_2 (by omega) (by omega), zscr_s (i := i) (j := 3) hS hL zE_3 (by omega) (by omega), qy3, if_pos rfl, zm291_2019, zscr_s (i := i) (j := 4) hS hL zE_4 (by omega) (by omega), zscr_s (i := i) (j := 5) hS hL zE_5 (by omega) (by omega), w2, zb2_s, zscr_s (i := i) (j := 1) hS1 hL zE_1 (by omega) (by omega), zscr_s (i := i) (j := 2) hS1 hL zE_2 (by omega) (by omega), zscr_s (i := i) (j := 3) hS1 hL zE_3 (by omega) (by omega), qy3, if_pos rfl, zm291_2052, zscr_s (i := i) (j := 4) hS1 hL zE_4 (by omega) (by omega), zscr_s (i := i) (j := 5) hS1 hL zE_5 (by omega) (by omega), zo_13, m8, zb_s, zo_13, zthr m4, zb_s, m2, if_pos rfl, if_neg tz, zgo]
    · show zm291_1999 k _ _ _ _ _ _ _ = _
      have w2 : zm284 (some (12, 0)) (xs (i + 1).toNat) (xs (i + 2).toNat) (1 : Int32) (xs (i + 4).toNat) (xs (i + 5).toNat) (some (38, 0)) h = _ := (congrArg (fun x => x) (by simp only [zE_0, zE_1] : zm284 (some (12, 0)) (xs (i + 1).toNat) (xs (i + 2).toNat) (1 : Int32) (xs (i + 4).toNat) (xs (i + 5).toNat) (some (38, 0)) h = zm284 (some (12, 0)) (xs (i + 1).toNat) (xs (i + 2).toNat) (zE 1) (xs (i + 4).toNat) (xs (i + 5).toNat) (some (38, 0)) h)).trans w1
      have m8 : zm231 (some (13, 0)) (xs (i + 1).toNat) (xs (i + 2).toNat) (1 : Int32) (xs (i + 4).toNat) (xs (i + 5).toNat) h1 = _ := (congrArg (fun x => x) (by simp only [zE_0, zE_1] : zm231 (some (13, 0)) (xs (i + 1).toNat) (xs (i + 2).toNat) (1 : Int32) (xs (i + 4).toNat) (xs (i + 5).toNat) h1 = zm231 (some (13, 0)) (xs (i + 1).toNat) (xs (i + 2).toNat) (zE 1) (xs (i + 4).toNat) (xs (i + 5).toNat) h1)).trans m3
      rw [zm291_1999, zscr_s (i := i) (j := 1) hS hL zE_1 (by omega) (by omega), zscr_s (i := i) (j := 2) hS hL zE_2 (by omega) (by omega), zscr_s (i := i) (j := 3) hS hL zE_3 (by omega) (by omega), qy3, if_neg q2, zm291_2019, zscr_s (i := i) (j := 4) hS hL zE_4 (by omega) (by omega), zscr_s (i := i) (j := 5) hS hL zE_5 (by omega) (by omega), w2, zb2_s, zscr_s (i := i) (j := 1) hS1 hL zE_1 (by omega) (by omega), zscr_s (i := i) (j := 2) hS1 hL zE_2 (by omega) (by omega), zscr_s (i := i) (j := 3) hS1 hL zE_3 (by omega) (by omega), qy3, if_neg q2, zm291_2052, zscr_s (i := i) (j := 4) hS1 hL zE_4 (by omega) (by omega), zscr_s (i := i) (j := 5) hS1 hL zE_5 (by omega) (by omega), zo_13, m8, zb_s, zo_13, zthr m4, zb_s, m2, if_pos rfl, if_neg tz, zgo]
