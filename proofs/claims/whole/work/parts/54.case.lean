set_option maxRecDepth 16384
/-! The law's calls: what each asks of the class's method and the model's (printed by wip/whole/gen/cases.py). -/
def zCct {τ : Type} (h : zH) (s' : zS) (r : zRs τ) (o : τ ⊕ Nat) : Prop := ∃ h1, r = some (o, h1) ∧ zCl h1 s' ∧ zKp (fun k => ¬ zpc1 k) h h1 ∧ zce h1 ≤ zce h + 40 ∧ zso h1 ≤ zso h + 5000
def zMct {τ : Type} (h : zH) (s' : zS) (r : zRs τ) (v : τ) : Prop := ∃ h1, r = some (.inl v, h1) ∧ zMd h1 s' ∧ zKp (fun k => ¬ zpm1 k) h h1 ∧ zce h1 = zce h ∧ zso h1 = zso h
/-- both do the same: t is what is thrown, by the model's number; v the answer -/
def zPrI (C M : zH → zRs Int32) (ex : Int → Nat) (tm : Int) : Prop := ∀ (h : zH) (s : zS), zCl h s → zMd h s → zWf s → ∃ (t v w : Int) (s' : zS), 0 ≤ t ∧ t ≤ tm ∧ zWf s' ∧ ((t = 0 ∧ zCct h s' (C h) (.inl (zE v))) ∨ (t ≠ 0 ∧ zCct h s' (C h) (.inr (ex t)))) ∧ (t = 0 → w = v) ∧ ∀ h', zMd h' s → ∃ s'', zsc s' s'' ∧ s'' 0 0 = t ∧ zMct h' s'' (M h') (zE w)
/-- .. with a truth for an answer -/
def zPrZ (C M : zH → zRs Int32) (ex : Int → Nat) (tm : Int) : Prop := ∀ (h : zH) (s : zS), zCl h s → zMd h s → zWf s → ∃ (t v w : Int) (s' : zS), 0 ≤ t ∧ t ≤ tm ∧ zWf s' ∧ (v = 0 ∨ v = 1) ∧ (w = 0 ∨ w = 1) ∧ ((t = 0 ∧ zCct h s' (C h) (.inl (zE v))) ∨ (t ≠ 0 ∧ zCct h s' (C h) (.inr (ex t)))) ∧ (t = 0 → w = v) ∧ ∀ h', zMd h' s → ∃ s'', zsc s' s'' ∧ s'' 0 0 = t ∧ zMct h' s'' (M h') (zE w)
/-- .. with none -/
def zPrV (C M : zH → zRs Unit) (ex : Int → Nat) (tm : Int) : Prop := ∀ (h : zH) (s : zS), zCl h s → zMd h s → zWf s → ∃ (t : Int) (s' : zS), 0 ≤ t ∧ t ≤ tm ∧ zWf s' ∧ ((t = 0 ∧ zCct h s' (C h) (.inl ())) ∨ (t ≠ 0 ∧ zCct h s' (C h) (.inr (ex t)))) ∧ ∀ h', zMd h' s → ∃ s'', zsc s' s'' ∧ s'' 0 0 = t ∧ zMct h' s'' (M h') ()
theorem zl_sl {h : zH} {k i j : Nat} {v : Int64} : zl (zsl h k i j v) k i j = v := if_pos ⟨rfl, rfl, rfl⟩
section ZCASE
variable {α : Type}
theorem zbH_s {hd : List (Nat × Nat × Nat × Nat)} {pc : Nat} {v : α} {h : zH} {f : α → zH → zRs Int32} : zbH hd pc (some (.inl v, h)) f = f v h := rfl
theorem zbH_x {hd : List (Nat × Nat × Nat × Nat)} {pc E c : Nat} {h : zH} {f : α → zH → zRs Int32} (hc : zhnd hd pc E = some c) : zbH hd pc (some (.inr E, h)) f = some (.inl (nI c), h) := by
  show (match zhnd hd pc E with | some c => some ((.inl (nI c) : Int32 ⊕ Nat), h) | none => none) = _
  rw [hc]
theorem zout_s {L : Nat} {xs : Nat → Int32} {h : zH} {g : Nat → Nat → Nat → Option α} (hS : zSc L xs h) : zar 3 (some (38, 0)) (0 : Int32) h g = g 38 0 0 := by
  rw [zE_0]
  exact zar_s (k := 38) (i := 0) (n := 1) rfl rfl hS.1 (Int.le_refl _) (by omega) (by omega)
theorem zoutr_s {L : Nat} {xs : Nat → Int32} {h : zH} {g : Int64 → Option α} (hS : zSc L xs h) : zrj (some (38, 0)) (0 : Int32) h g = g (zl h 38 0 0) := by
  unfold zrj
  rw [zout_s hS]
theorem zscr_s {L : Nat} {xs : Nat → Int32} {h : zH} {i j : Int} {x : Int32} {g : Int32 → Option α} (hS : zSc L xs h) (hL : L ≤ 5120) (hj : x = zE j) (h0 : 0 ≤ i + j) (h1 : i + j < L) : zri (some (40, 0)) (zE i + x) h g = g (xs (i + j).toNat) := by
  rw [hj, zE_add]
  exact zri_s rfl rfl hS.2.2.1 h0 h1 (by omega) (hS.2.2.2 (i + j).toNat (by omega))
theorem lg_cmp_e (x : Int64) : lg_cmp x x = 0 := by
  unfold lg_cmp
  simp
end ZCASE
theorem zthr {h : zH} {s : zS} (hM : zMd h s) : zm137 (some (13, 0)) h = some (.inl (zE (s 0 0)), h) := by
  rw [zm137, zM_ob, zMs0 hM]
theorem zgo {k : zLk} {x0 x1 x2 x3 x4 : zq} {i : Int} {h : zH} : zm291_2349 k x0 x1 x2 x3 x4 (zE i) h = k x0 x1 x2 x3 x4 (zE (i + 10)) h := by
  rw [zm291_2349, zlet_s, zE_10, zE_add]
theorem zinv_end {L : Nat} {xs : Nat → Int32} {h h1 h2 h3 : zH} {s' s'' : zS} (hS : zSc L xs h) (c1 : zCl h1 s') (k1 : zKp (fun k => ¬ zpc1 k) h h1) (k2 : ∀ k, k ≠ 38 → k ≠ 39 → zct h2 k = zct h1 k ∧ zln h2 k = zln h1 k ∧ zi h2 k = zi h1 k ∧ zr h2 k = zr h1 k ∧ zd h2 k = zd h1 k ∧ zl h2 k = zl h1 k) (k3 : zln h2 = zln h1 ∧ zi h2 = zi h1) (m1 : zsc s' s'') (m2 : zMd h3 s'') (k4 : zKp (fun k => ¬ zpm1 k) h2 h3) (hW : zWf s') : zInv L xs h3 s'' := by
  refine ⟨((c1.kp fun k hk => k2 k (by unfold zpc1 at hk; omega) (by unfold zpc1 at hk; omega)).kp (k4.mn fun k hk => by unfold zpc1 at hk; unfold zpm1; omega)).sc m1, m2, hW.sc m1, ?_⟩
  refine hS.kp fun k hk => ?_
  obtain ⟨-, a1, a2, -⟩ := k1 k (by unfold zpc1; omega)
  obtain ⟨-, b1, b2, -⟩ := k4 k (by unfold zpm1; omega)
  rw [b1, b2, k3.1, k3.2, a1, a2]
  exact ⟨rfl, rfl⟩
theorem zSc_1 {L : Nat} {xs : Nat → Int32} {h h1 : zH} (hS : zSc L xs h) (k1 : zKp (fun k => ¬ zpc1 k) h h1) : zSc L xs h1 := hS.kp fun k hk => ⟨(k1 k (by unfold zpc1; omega)).2.1, (k1 k (by unfold zpc1; omega)).2.2.1⟩
theorem zSc_2 {L : Nat} {xs : Nat → Int32} {h h1 : zH} (hS : zSc L xs h) (k1 : zKp (fun k => ¬ zpm1 k) h h1) : zSc L xs h1 := hS.kp fun k hk => ⟨(k1 k (by unfold zpm1; omega)).2.1, (k1 k (by unfold zpm1; omega)).2.2.1⟩
theorem zMd_1 {h h1 : zH} {s : zS} (hM : zMd h s) (k1 : zKp (fun k => ¬ zpc1 k) h h1) : zMd h1 s := hM.kp (k1.mn fun k hk => by unfold zpm1 at hk; unfold zpc1; omega)
theorem zcase_1 (hp : ∀ x1 x2 : Int32, zPrI (fun h => zm42 (some (12, 0)) x1 x2 h) (fun h => zm147 (some (13, 0)) x1 x2 h) (fun t => 2) 1) : zCase fun k => zm291_159 k := by
  intro L xs h s i k hL hI h0 h1
  obtain ⟨hC, hM, hW, hS⟩ := hI
  obtain ⟨t, v, w, s', t0, t3, hW', hc, hwv, hm⟩ := hp (xs (i + 1).toNat) (xs (i + 2).toNat) h s hC hM hW
  have hx : ∀ t : Int, 1 ≤ t → t ≤ 1 → zhnd [(0, 8, 2, 1)] 5 ((fun t => 2) t) = some t.toNat := by
    intro t a b
    obtain rfl : t = 1 := by omega
    rfl
  rcases hc with ⟨rfl, h1, e1, c1, k1, r1, r2⟩ | ⟨tn, h1, e1, c1, k1, r1, r2⟩
  · have hS1 := zSc_1 hS k1
    dsimp only at e1
    have hS2 : zSc L xs (zsl h1 38 0 0 (zE v).toInt64) := hS1
    have hk2 : ∀ k, k ≠ 38 → k ≠ 39 → zct (zsl h1 38 0 0 (zE v).toInt64) k = zct h1 k ∧ zln (zsl h1 38 0 0 (zE v).toInt64) k = zln h1 k ∧ zi (zsl h1 38 0 0 (zE v).toInt64) k = zi h1 k ∧ zr (zsl h1 38 0 0 (zE v).toInt64) k = zr h1 k ∧ zd (zsl h1 38 0 0 (zE v).toInt64) k = zd h1 k ∧ zl (zsl h1 38 0 0 (zE v).toInt64) k = zl h1 k := fun k a _ => ⟨rfl, rfl, rfl, rfl, rfl, zu_k a⟩
    obtain ⟨s'', m1, m2, h3, m3, m4, m5, m6, m7⟩ := hm (zsl h1 38 0 0 (zE v).toInt64) (show zMd h1 s from zMd_1 hM k1)
    dsimp only at m3
    have hI3 := zinv_end hS c1 k1 hk2 ⟨rfl, rfl⟩ m1 m4 m5 hW'
    have hl3 : zl h3 38 0 0 = (zE v).toInt64 := by
      rw [(m5 38 (by unfold zpm1; omega)).2.2.2.2.2]
      exact zl_sl
    refine ⟨h3, s'', hI3, by have a1 : zce (zsl h1 38 0 0 (zE v).toInt64) = zce h1 := rfl; have a2 : zso (zsl h1 38 0 0 (zE v).toInt64) = zso h1 := rfl; omega, by have a1 : zce (zsl h1 38 0 0 (zE v).toInt64) = zce h1 := rfl; have a2 : zso (zsl h1 38 0 0 (zE v).toInt64) = zso h1 := rfl; omega, ?_⟩
    have w1 : zm242 (some (12, 0)) (xs (i + 1).toNat) (xs (i + 2).toNat) (some (38, 0)) h = some (.inl 0, (zsl h1 38 0 0 (zE v).toInt64)) := by
      simp only [zm242, ↓zo_12, e1, zbH_s, ↓zout_s hS1, ↓zlet_s]
    show zm291_159 k _ _ _ _ _ _ _ = _
    simp only [zm291_159, ↓zscr_s (i := i) (j := 1) hS hL zE_1 (by omega) (by omega), ↓zscr_s (i := i) (j := 2) hS hL zE_2 (by omega) (by omega), w1, zb2_s]
    simp only [↓zscr_s (i := i) (j := 1) hS2 hL zE_1 (by omega) (by omega), ↓zscr_s (i := i) (j := 2) hS2 hL zE_2 (by omega) (by omega), ↓zo_13, m3, zb_s, zthr m4, m2, zE_0, if_true]
    rw [← zE_0, zoutr_s hI3.2.2.2, hl3, hwv rfl, lg_cmp_e, if_pos rfl, zgo]
  · have hS1 := zSc_1 hS k1
    dsimp only at e1
    obtain ⟨s'', m1, m2, h3, m3, m4, m5, m6, m7⟩ := hm h1 (zMd_1 hM k1)
    dsimp only at m3
    have hI3 := zinv_end hS c1 k1 (fun k _ _ => ⟨rfl, rfl, rfl, rfl, rfl, rfl⟩) ⟨rfl, rfl⟩ m1 m4 m5 hW'
    refine ⟨h3, s'', hI3, by omega, by omega, ?_⟩
    have e2 : nI t.toNat = zE t := by rw [zE_nI, Int.toNat_of_nonneg t0]
    have w1 : zm242 (some (12, 0)) (xs (i + 1).toNat) (xs (i + 2).toNat) (some (38, 0)) h = some (.inl (zE t), h1) := by
      simp only [zm242, ↓zo_12, e1]
      rw [zbH_x (hx t (by omega) t3), e2]
    have tz : (zE t = zE 0) = False := by rw [zE_inj (by omega) (by omega) (by omega) (by omega)]; exact eq_false tn
    show zm291_159 k _ _ _ _ _ _ _ = _
    simp only [zm291_159, ↓zscr_s (i := i) (j := 1) hS hL zE_1 (by omega) (by omega), ↓zscr_s (i := i) (j := 2) hS hL zE_2 (by omega) (by omega), w1, zb2_s]
    simp only [↓zscr_s (i := i) (j := 1) hS1 hL zE_1 (by omega) (by omega), ↓zscr_s (i := i) (j := 2) hS1 hL zE_2 (by omega) (by omega), ↓zo_13, m3, zb_s, zthr m4, m2, zE_0, tz, if_true, if_false, zgo]
theorem zcase_2 (hp : ∀ x1 : Int32, zPrZ (fun h => zm43 (some (12, 0)) x1 h) (fun h => zm149 (some (13, 0)) x1 h) (fun t => 2) 1) : zCase fun k => zm291_204 k := by
  intro L xs h s i k hL hI h0 h1
  obtain ⟨hC, hM, hW, hS⟩ := hI
  obtain ⟨t, v, w, s', t0, t3, hW', hv01, hw01, hc, hwv, hm⟩ := hp (xs (i + 1).toNat) h s hC hM hW
  have hx : ∀ t : Int, 1 ≤ t → t ≤ 1 → zhnd [(0, 10, 2, 1)] 4 ((fun t => 2) t) = some t.toNat := by
    intro t a b
    obtain rfl : t = 1 := by omega
    rfl
  rcases hc with ⟨rfl, h1, e1, c1, k1, r1, r2⟩ | ⟨tn, h1, e1, c1, k1, r1, r2⟩
  · have hS1 := zSc_1 hS k1
    dsimp only at e1
    have hS2 : zSc L xs (zsl h1 38 0 0 (if v = 0 then (0 : Int64) else 1)) := hS1
    have hk2 : ∀ k, k ≠ 38 → k ≠ 39 → zct (zsl h1 38 0 0 (if v = 0 then (0 : Int64) else 1)) k = zct h1 k ∧ zln (zsl h1 38 0 0 (if v = 0 then (0 : Int64) else 1)) k = zln h1 k ∧ zi (zsl h1 38 0 0 (if v = 0 then (0 : Int64) else 1)) k = zi h1 k ∧ zr (zsl h1 38 0 0 (if v = 0 then (0 : Int64) else 1)) k = zr h1 k ∧ zd (zsl h1 38 0 0 (if v = 0 then (0 : Int64) else 1)) k = zd h1 k ∧ zl (zsl h1 38 0 0 (if v = 0 then (0 : Int64) else 1)) k = zl h1 k := fun k a _ => ⟨rfl, rfl, rfl, rfl, rfl, zu_k a⟩
    obtain ⟨s'', m1, m2, h3, m3, m4, m5, m6, m7⟩ := hm (zsl h1 38 0 0 (if v = 0 then (0 : Int64) else 1)) (show zMd h1 s from zMd_1 hM k1)
    dsimp only at m3
    have hI3 := zinv_end hS c1 k1 hk2 ⟨rfl, rfl⟩ m1 m4 m5 hW'
    have hl3 : zl h3 38 0 0 = (if v = 0 then (0 : Int64) else 1) := by
      rw [(m5 38 (by unfold zpm1; omega)).2.2.2.2.2]
      exact zl_sl
    refine ⟨h3, s'', hI3, by have a1 : zce (zsl h1 38 0 0 (if v = 0 then (0 : Int64) else 1)) = zce h1 := rfl; have a2 : zso (zsl h1 38 0 0 (if v = 0 then (0 : Int64) else 1)) = zso h1 := rfl; omega, by have a1 : zce (zsl h1 38 0 0 (if v = 0 then (0 : Int64) else 1)) = zce h1 := rfl; have a2 : zso (zsl h1 38 0 0 (if v = 0 then (0 : Int64) else 1)) = zso h1 := rfl; omega, ?_⟩
    have w1 : zm243 (some (12, 0)) (xs (i + 1).toNat) (some (38, 0)) h = some (.inl 0, (zsl h1 38 0 0 (if v = 0 then (0 : Int64) else 1))) := by
      rcases hv01 with rfl | rfl
      · simp only [zm243, zm243_9, ↓zo_12, e1, zbH_s, zE_0, if_true]
        rw [← zE_0, zout_s hS1]
        rfl
      · have z1 : ¬ zE 1 = zE 0 := by decide
        simp only [zm243, zm243_9, ↓zo_12, e1, zbH_s, zE_0, z1, if_false]
        rw [← zE_0, zout_s hS1]
        rfl
    show zm291_204 k _ _ _ _ _ _ _ = _
    have hwv := hwv rfl
    subst hwv
    simp only [zm291_204, ↓zscr_s (i := i) (j := 1) hS hL zE_1 (by omega) (by omega), w1, zb2_s]
    simp only [↓zscr_s (i := i) (j := 1) hS2 hL zE_1 (by omega) (by omega), ↓zo_13, m3, zb_s, zthr m4, m2, zE_0, if_true]
    rw [← zE_0, zoutr_s hI3.2.2.2, hl3]
    rcases hw01 with rfl | rfl
    · simp only [zm291_237, zE_0, if_true, lg_cmp_e]
      exact zgo
    · have z1 : ¬ zE 1 = zE 0 := by decide
      have z2 : ¬ (1 : Int) = 0 := by decide
      simp only [zm291_237, zE_0, z1, z2, if_false, if_true, lg_cmp_e]
      exact zgo
  · have hS1 := zSc_1 hS k1
    dsimp only at e1
    obtain ⟨s'', m1, m2, h3, m3, m4, m5, m6, m7⟩ := hm h1 (zMd_1 hM k1)
    dsimp only at m3
    have hI3 := zinv_end hS c1 k1 (fun k _ _ => ⟨rfl, rfl, rfl, rfl, rfl, rfl⟩) ⟨rfl, rfl⟩ m1 m4 m5 hW'
    refine ⟨h3, s'', hI3, by omega, by omega, ?_⟩
    have e2 : nI t.toNat = zE t := by rw [zE_nI, Int.toNat_of_nonneg t0]
    have w1 : zm243 (some (12, 0)) (xs (i + 1).toNat) (some (38, 0)) h = some (.inl (zE t), h1) := by
      simp only [zm243, ↓zo_12, e1]
      rw [zbH_x (hx t (by omega) t3), e2]
    have tz : (zE t = zE 0) = False := by rw [zE_inj (by omega) (by omega) (by omega) (by omega)]; exact eq_false tn
    show zm291_204 k _ _ _ _ _ _ _ = _
    simp only [zm291_204, ↓zscr_s (i := i) (j := 1) hS hL zE_1 (by omega) (by omega), w1, zb2_s]
    simp only [↓zscr_s (i := i) (j := 1) hS1 hL zE_1 (by omega) (by omega), ↓zo_13, m3, zb_s, zthr m4, m2, zE_0, tz, if_true, if_false, zgo]
theorem zcase_3 (hp : ∀ x1 : Int32, zPrI (fun h => zm44 (some (12, 0)) x1 h) (fun h => zm152 (some (13, 0)) x1 h) (fun t => 2) 1) : zCase fun k => zm291_242 k := by
  intro L xs h s i k hL hI h0 h1
  obtain ⟨hC, hM, hW, hS⟩ := hI
  obtain ⟨t, v, w, s', t0, t3, hW', hc, hwv, hm⟩ := hp (xs (i + 1).toNat) h s hC hM hW
  have hx : ∀ t : Int, 1 ≤ t → t ≤ 1 → zhnd [(0, 7, 2, 1)] 4 ((fun t => 2) t) = some t.toNat := by
    intro t a b
    obtain rfl : t = 1 := by omega
    rfl
  rcases hc with ⟨rfl, h1, e1, c1, k1, r1, r2⟩ | ⟨tn, h1, e1, c1, k1, r1, r2⟩
  · have hS1 := zSc_1 hS k1
    dsimp only at e1
    have hS2 : zSc L xs (zsl h1 38 0 0 (zE v).toInt64) := hS1
    have hk2 : ∀ k, k ≠ 38 → k ≠ 39 → zct (zsl h1 38 0 0 (zE v).toInt64) k = zct h1 k ∧ zln (zsl h1 38 0 0 (zE v).toInt64) k = zln h1 k ∧ zi (zsl h1 38 0 0 (zE v).toInt64) k = zi h1 k ∧ zr (zsl h1 38 0 0 (zE v).toInt64) k = zr h1 k ∧ zd (zsl h1 38 0 0 (zE v).toInt64) k = zd h1 k ∧ zl (zsl h1 38 0 0 (zE v).toInt64) k = zl h1 k := fun k a _ => ⟨rfl, rfl, rfl, rfl, rfl, zu_k a⟩
    obtain ⟨s'', m1, m2, h3, m3, m4, m5, m6, m7⟩ := hm (zsl h1 38 0 0 (zE v).toInt64) (show zMd h1 s from zMd_1 hM k1)
    dsimp only at m3
    have hI3 := zinv_end hS c1 k1 hk2 ⟨rfl, rfl⟩ m1 m4 m5 hW'
    have hl3 : zl h3 38 0 0 = (zE v).toInt64 := by
      rw [(m5 38 (by unfold zpm1; omega)).2.2.2.2.2]
      exact zl_sl
    refine ⟨h3, s'', hI3, by have a1 : zce (zsl h1 38 0 0 (zE v).toInt64) = zce h1 := rfl; have a2 : zso (zsl h1 38 0 0 (zE v).toInt64) = zso h1 := rfl; omega, by have a1 : zce (zsl h1 38 0 0 (zE v).toInt64) = zce h1 := rfl; have a2 : zso (zsl h1 38 0 0 (zE v).toInt64) = zso h1 := rfl; omega, ?_⟩
    have w1 : zm244 (some (12, 0)) (xs (i + 1).toNat) (some (38, 0)) h = some (.inl 0, (zsl h1 38 0 0 (zE v).toInt64)) := by
      simp only [zm244, ↓zo_12, e1, zbH_s, ↓zout_s hS1, ↓zlet_s]
    show zm291_242 k _ _ _ _ _ _ _ = _
    simp only [zm291_242, ↓zscr_s (i := i) (j := 1) hS hL zE_1 (by omega) (by omega), w1, zb2_s]
    simp only [↓zscr_s (i := i) (j := 1) hS2 hL zE_1 (by omega) (by omega), ↓zo_13, m3, zb_s, zthr m4, m2, zE_0, if_true]
    rw [← zE_0, zoutr_s hI3.2.2.2, hl3, hwv rfl, lg_cmp_e, if_pos rfl, zgo]
  · have hS1 := zSc_1 hS k1
    dsimp only at e1
    obtain ⟨s'', m1, m2, h3, m3, m4, m5, m6, m7⟩ := hm h1 (zMd_1 hM k1)
    dsimp only at m3
    have hI3 := zinv_end hS c1 k1 (fun k _ _ => ⟨rfl, rfl, rfl, rfl, rfl, rfl⟩) ⟨rfl, rfl⟩ m1 m4 m5 hW'
    refine ⟨h3, s'', hI3, by omega, by omega, ?_⟩
    have e2 : nI t.toNat = zE t := by rw [zE_nI, Int.toNat_of_nonneg t0]
    have w1 : zm244 (some (12, 0)) (xs (i + 1).toNat) (some (38, 0)) h = some (.inl (zE t), h1) := by
      simp only [zm244, ↓zo_12, e1]
      rw [zbH_x (hx t (by omega) t3), e2]
    have tz : (zE t = zE 0) = False := by rw [zE_inj (by omega) (by omega) (by omega) (by omega)]; exact eq_false tn
    show zm291_242 k _ _ _ _ _ _ _ = _
    simp only [zm291_242, ↓zscr_s (i := i) (j := 1) hS hL zE_1 (by omega) (by omega), w1, zb2_s]
    simp only [↓zscr_s (i := i) (j := 1) hS1 hL zE_1 (by omega) (by omega), ↓zo_13, m3, zb_s, zthr m4, m2, zE_0, tz, if_true, if_false, zgo]
theorem zcase_5 (hp : zPrI (fun h => zm49 (some (12, 0))  h) (fun h => zm154 (some (13, 0))  h) (fun t => 1) 1) : zCase fun k => zm291_284 k := by
  intro L xs h s i k hL hI h0 h1
  obtain ⟨hC, hM, hW, hS⟩ := hI
  obtain ⟨t, v, w, s', t0, t3, hW', hc, hwv, hm⟩ := hp  h s hC hM hW
  have hx : ∀ t : Int, 1 ≤ t → t ≤ 1 → zhnd [(0, 6, 1, 1)] 3 ((fun t => 1) t) = some t.toNat := by
    intro t a b
    obtain rfl : t = 1 := by omega
    rfl
  rcases hc with ⟨rfl, h1, e1, c1, k1, r1, r2⟩ | ⟨tn, h1, e1, c1, k1, r1, r2⟩
  · have hS1 := zSc_1 hS k1
    dsimp only at e1
    have hS2 : zSc L xs (zsl h1 38 0 0 (zE v).toInt64) := hS1
    have hk2 : ∀ k, k ≠ 38 → k ≠ 39 → zct (zsl h1 38 0 0 (zE v).toInt64) k = zct h1 k ∧ zln (zsl h1 38 0 0 (zE v).toInt64) k = zln h1 k ∧ zi (zsl h1 38 0 0 (zE v).toInt64) k = zi h1 k ∧ zr (zsl h1 38 0 0 (zE v).toInt64) k = zr h1 k ∧ zd (zsl h1 38 0 0 (zE v).toInt64) k = zd h1 k ∧ zl (zsl h1 38 0 0 (zE v).toInt64) k = zl h1 k := fun k a _ => ⟨rfl, rfl, rfl, rfl, rfl, zu_k a⟩
    obtain ⟨s'', m1, m2, h3, m3, m4, m5, m6, m7⟩ := hm (zsl h1 38 0 0 (zE v).toInt64) (show zMd h1 s from zMd_1 hM k1)
    dsimp only at m3
    have hI3 := zinv_end hS c1 k1 hk2 ⟨rfl, rfl⟩ m1 m4 m5 hW'
    have hl3 : zl h3 38 0 0 = (zE v).toInt64 := by
      rw [(m5 38 (by unfold zpm1; omega)).2.2.2.2.2]
      exact zl_sl
    refine ⟨h3, s'', hI3, by have a1 : zce (zsl h1 38 0 0 (zE v).toInt64) = zce h1 := rfl; have a2 : zso (zsl h1 38 0 0 (zE v).toInt64) = zso h1 := rfl; omega, by have a1 : zce (zsl h1 38 0 0 (zE v).toInt64) = zce h1 := rfl; have a2 : zso (zsl h1 38 0 0 (zE v).toInt64) = zso h1 := rfl; omega, ?_⟩
    have w1 : zm245 (some (12, 0))  (some (38, 0)) h = some (.inl 0, (zsl h1 38 0 0 (zE v).toInt64)) := by
      simp only [zm245, ↓zo_12, e1, zbH_s, ↓zout_s hS1, ↓zlet_s]
    show zm291_284 k _ _ _ _ _ _ _ = _
    simp only [zm291_284, w1, zb2_s]
    simp only [↓zo_13, m3, zb_s, zthr m4, m2, zE_0, if_true]
    rw [← zE_0, zoutr_s hI3.2.2.2, hl3, hwv rfl, lg_cmp_e, if_pos rfl, zgo]
  · have hS1 := zSc_1 hS k1
    dsimp only at e1
    obtain ⟨s'', m1, m2, h3, m3, m4, m5, m6, m7⟩ := hm h1 (zMd_1 hM k1)
    dsimp only at m3
    have hI3 := zinv_end hS c1 k1 (fun k _ _ => ⟨rfl, rfl, rfl, rfl, rfl, rfl⟩) ⟨rfl, rfl⟩ m1 m4 m5 hW'
    refine ⟨h3, s'', hI3, by omega, by omega, ?_⟩
    have e2 : nI t.toNat = zE t := by rw [zE_nI, Int.toNat_of_nonneg t0]
    have w1 : zm245 (some (12, 0))  (some (38, 0)) h = some (.inl (zE t), h1) := by
      simp only [zm245, ↓zo_12, e1]
      rw [zbH_x (hx t (by omega) t3), e2]
    have tz : (zE t = zE 0) = False := by rw [zE_inj (by omega) (by omega) (by omega) (by omega)]; exact eq_false tn
    show zm291_284 k _ _ _ _ _ _ _ = _
    simp only [zm291_284, w1, zb2_s]
    simp only [↓zo_13, m3, zb_s, zthr m4, m2, zE_0, tz, if_true, if_false, zgo]
theorem zcase_6 (hp : ∀ x1 x2 x3 x4 : Int32, zPrI (fun h => zm50 (some (12, 0)) x1 x2 x3 x4 h) (fun h => zm155 (some (13, 0)) x1 x2 x3 x4 h) (fun t => if t = 1 then 2 else if t = 2 then 0 else 1) 3) : zCase fun k => zm291_309 k := by
  intro L xs h s i k hL hI h0 h1
  obtain ⟨hC, hM, hW, hS⟩ := hI
  obtain ⟨t, v, w, s', t0, t3, hW', hc, hwv, hm⟩ := hp (xs (i + 1).toNat) (xs (i + 2).toNat) (xs (i + 3).toNat) (xs (i + 4).toNat) h s hC hM hW
  have hx : ∀ t : Int, 1 ≤ t → t ≤ 3 → zhnd [(0, 10, 2, 1), (0, 10, 0, 2), (0, 10, 1, 3)] 7 ((fun t => if t = 1 then 2 else if t = 2 then 0 else 1) t) = some t.toNat := by
    intro t a b
    rcases (show t = 1 ∨ t = 2 ∨ t = 3 by omega) with rfl | rfl | rfl <;> rfl
  rcases hc with ⟨rfl, h1, e1, c1, k1, r1, r2⟩ | ⟨tn, h1, e1, c1, k1, r1, r2⟩
  · have hS1 := zSc_1 hS k1
    dsimp only at e1
    have hS2 : zSc L xs (zsl h1 38 0 0 (zE v).toInt64) := hS1
    have hk2 : ∀ k, k ≠ 38 → k ≠ 39 → zct (zsl h1 38 0 0 (zE v).toInt64) k = zct h1 k ∧ zln (zsl h1 38 0 0 (zE v).toInt64) k = zln h1 k ∧ zi (zsl h1 38 0 0 (zE v).toInt64) k = zi h1 k ∧ zr (zsl h1 38 0 0 (zE v).toInt64) k = zr h1 k ∧ zd (zsl h1 38 0 0 (zE v).toInt64) k = zd h1 k ∧ zl (zsl h1 38 0 0 (zE v).toInt64) k = zl h1 k := fun k a _ => ⟨rfl, rfl, rfl, rfl, rfl, zu_k a⟩
    obtain ⟨s'', m1, m2, h3, m3, m4, m5, m6, m7⟩ := hm (zsl h1 38 0 0 (zE v).toInt64) (show zMd h1 s from zMd_1 hM k1)
    dsimp only at m3
    have hI3 := zinv_end hS c1 k1 hk2 ⟨rfl, rfl⟩ m1 m4 m5 hW'
    have hl3 : zl h3 38 0 0 = (zE v).toInt64 := by
      rw [(m5 38 (by unfold zpm1; omega)).2.2.2.2.2]
      exact zl_sl
    refine ⟨h3, s'', hI3, by have a1 : zce (zsl h1 38 0 0 (zE v).toInt64) = zce h1 := rfl; have a2 : zso (zsl h1 38 0 0 (zE v).toInt64) = zso h1 := rfl; omega, by have a1 : zce (zsl h1 38 0 0 (zE v).toInt64) = zce h1 := rfl; have a2 : zso (zsl h1 38 0 0 (zE v).toInt64) = zso h1 := rfl; omega, ?_⟩
    have w1 : zm246 (some (12, 0)) (xs (i + 1).toNat) (xs (i + 2).toNat) (xs (i + 3).toNat) (xs (i + 4).toNat) (some (38, 0)) h = some (.inl 0, (zsl h1 38 0 0 (zE v).toInt64)) := by
      simp only [zm246, ↓zo_12, e1, zbH_s, ↓zout_s hS1, ↓zlet_s]
    show zm291_309 k _ _ _ _ _ _ _ = _
    simp only [zm291_309, ↓zscr_s (i := i) (j := 1) hS hL zE_1 (by omega) (by omega), ↓zscr_s (i := i) (j := 2) hS hL zE_2 (by omega) (by omega), ↓zscr_s (i := i) (j := 3) hS hL zE_3 (by omega) (by omega), ↓zscr_s (i := i) (j := 4) hS hL zE_4 (by omega) (by omega), w1, zb2_s]
    simp only [↓zscr_s (i := i) (j := 1) hS2 hL zE_1 (by omega) (by omega), ↓zscr_s (i := i) (j := 2) hS2 hL zE_2 (by omega) (by omega), ↓zscr_s (i := i) (j := 3) hS2 hL zE_3 (by omega) (by omega), ↓zscr_s (i := i) (j := 4) hS2 hL zE_4 (by omega) (by omega), ↓zo_13, m3, zb_s, zthr m4, m2, zE_0, if_true]
    rw [← zE_0, zoutr_s hI3.2.2.2, hl3, hwv rfl, lg_cmp_e, if_pos rfl, zgo]
  · have hS1 := zSc_1 hS k1
    dsimp only at e1
    obtain ⟨s'', m1, m2, h3, m3, m4, m5, m6, m7⟩ := hm h1 (zMd_1 hM k1)
    dsimp only at m3
    have hI3 := zinv_end hS c1 k1 (fun k _ _ => ⟨rfl, rfl, rfl, rfl, rfl, rfl⟩) ⟨rfl, rfl⟩ m1 m4 m5 hW'
    refine ⟨h3, s'', hI3, by omega, by omega, ?_⟩
    have e2 : nI t.toNat = zE t := by rw [zE_nI, Int.toNat_of_nonneg t0]
    have w1 : zm246 (some (12, 0)) (xs (i + 1).toNat) (xs (i + 2).toNat) (xs (i + 3).toNat) (xs (i + 4).toNat) (some (38, 0)) h = some (.inl (zE t), h1) := by
      simp only [zm246, ↓zo_12, e1]
      rw [zbH_x (hx t (by omega) t3), e2]
    have tz : (zE t = zE 0) = False := by rw [zE_inj (by omega) (by omega) (by omega) (by omega)]; exact eq_false tn
    show zm291_309 k _ _ _ _ _ _ _ = _
    simp only [zm291_309, ↓zscr_s (i := i) (j := 1) hS hL zE_1 (by omega) (by omega), ↓zscr_s (i := i) (j := 2) hS hL zE_2 (by omega) (by omega), ↓zscr_s (i := i) (j := 3) hS hL zE_3 (by omega) (by omega), ↓zscr_s (i := i) (j := 4) hS hL zE_4 (by omega) (by omega), w1, zb2_s]
    simp only [↓zscr_s (i := i) (j := 1) hS1 hL zE_1 (by omega) (by omega), ↓zscr_s (i := i) (j := 2) hS1 hL zE_2 (by omega) (by omega), ↓zscr_s (i := i) (j := 3) hS1 hL zE_3 (by omega) (by omega), ↓zscr_s (i := i) (j := 4) hS1 hL zE_4 (by omega) (by omega), ↓zo_13, m3, zb_s, zthr m4, m2, zE_0, tz, if_true, if_false, zgo]
theorem zcase_7 (hp : ∀ x1 x2 : Int32, zPrI (fun h => zm52 (some (12, 0)) x1 x2 h) (fun h => zm158 (some (13, 0)) x1 x2 h) (fun t => if t = 1 then 2 else 1) 2) : zCase fun k => zm291_374 k := by
  intro L xs h s i k hL hI h0 h1
  obtain ⟨hC, hM, hW, hS⟩ := hI
  obtain ⟨t, v, w, s', t0, t3, hW', hc, hwv, hm⟩ := hp (xs (i + 1).toNat) (xs (i + 2).toNat) h s hC hM hW
  have hx : ∀ t : Int, 1 ≤ t → t ≤ 2 → zhnd [(0, 8, 2, 1), (0, 8, 1, 2)] 5 ((fun t => if t = 1 then 2 else 1) t) = some t.toNat := by
    intro t a b
    rcases (show t = 1 ∨ t = 2 by omega) with rfl | rfl <;> rfl
  rcases hc with ⟨rfl, h1, e1, c1, k1, r1, r2⟩ | ⟨tn, h1, e1, c1, k1, r1, r2⟩
  · have hS1 := zSc_1 hS k1
    dsimp only at e1
    have hS2 : zSc L xs (zsl h1 38 0 0 (zE v).toInt64) := hS1
    have hk2 : ∀ k, k ≠ 38 → k ≠ 39 → zct (zsl h1 38 0 0 (zE v).toInt64) k = zct h1 k ∧ zln (zsl h1 38 0 0 (zE v).toInt64) k = zln h1 k ∧ zi (zsl h1 38 0 0 (zE v).toInt64) k = zi h1 k ∧ zr (zsl h1 38 0 0 (zE v).toInt64) k = zr h1 k ∧ zd (zsl h1 38 0 0 (zE v).toInt64) k = zd h1 k ∧ zl (zsl h1 38 0 0 (zE v).toInt64) k = zl h1 k := fun k a _ => ⟨rfl, rfl, rfl, rfl, rfl, zu_k a⟩
    obtain ⟨s'', m1, m2, h3, m3, m4, m5, m6, m7⟩ := hm (zsl h1 38 0 0 (zE v).toInt64) (show zMd h1 s from zMd_1 hM k1)
    dsimp only at m3
    have hI3 := zinv_end hS c1 k1 hk2 ⟨rfl, rfl⟩ m1 m4 m5 hW'
    have hl3 : zl h3 38 0 0 = (zE v).toInt64 := by
      rw [(m5 38 (by unfold zpm1; omega)).2.2.2.2.2]
      exact zl_sl
    refine ⟨h3, s'', hI3, by have a1 : zce (zsl h1 38 0 0 (zE v).toInt64) = zce h1 := rfl; have a2 : zso (zsl h1 38 0 0 (zE v).toInt64) = zso h1 := rfl; omega, by have a1 : zce (zsl h1 38 0 0 (zE v).toInt64) = zce h1 := rfl; have a2 : zso (zsl h1 38 0 0 (zE v).toInt64) = zso h1 := rfl; omega, ?_⟩
    have w1 : zm247 (some (12, 0)) (xs (i + 1).toNat) (xs (i + 2).toNat) (some (38, 0)) h = some (.inl 0, (zsl h1 38 0 0 (zE v).toInt64)) := by
      simp only [zm247, ↓zo_12, e1, zbH_s, ↓zout_s hS1, ↓zlet_s]
    show zm291_374 k _ _ _ _ _ _ _ = _
    simp only [zm291_374, ↓zscr_s (i := i) (j := 1) hS hL zE_1 (by omega) (by omega), ↓zscr_s (i := i) (j := 2) hS hL zE_2 (by omega) (by omega), w1, zb2_s]
    simp only [↓zscr_s (i := i) (j := 1) hS2 hL zE_1 (by omega) (by omega), ↓zscr_s (i := i) (j := 2) hS2 hL zE_2 (by omega) (by omega), ↓zo_13, m3, zb_s, zthr m4, m2, zE_0, if_true]
    rw [← zE_0, zoutr_s hI3.2.2.2, hl3, hwv rfl, lg_cmp_e, if_pos rfl, zgo]
  · have hS1 := zSc_1 hS k1
    dsimp only at e1
    obtain ⟨s'', m1, m2, h3, m3, m4, m5, m6, m7⟩ := hm h1 (zMd_1 hM k1)
    dsimp only at m3
    have hI3 := zinv_end hS c1 k1 (fun k _ _ => ⟨rfl, rfl, rfl, rfl, rfl, rfl⟩) ⟨rfl, rfl⟩ m1 m4 m5 hW'
    refine ⟨h3, s'', hI3, by omega, by omega, ?_⟩
    have e2 : nI t.toNat = zE t := by rw [zE_nI, Int.toNat_of_nonneg t0]
    have w1 : zm247 (some (12, 0)) (xs (i + 1).toNat) (xs (i + 2).toNat) (some (38, 0)) h = some (.inl (zE t), h1) := by
      simp only [zm247, ↓zo_12, e1]
      rw [zbH_x (hx t (by omega) t3), e2]
    have tz : (zE t = zE 0) = False := by rw [zE_inj (by omega) (by omega) (by omega) (by omega)]; exact eq_false tn
    show zm291_374 k _ _ _ _ _ _ _ = _
    simp only [zm291_374, ↓zscr_s (i := i) (j := 1) hS hL zE_1 (by omega) (by omega), ↓zscr_s (i := i) (j := 2) hS hL zE_2 (by omega) (by omega), w1, zb2_s]
    simp only [↓zscr_s (i := i) (j := 1) hS1 hL zE_1 (by omega) (by omega), ↓zscr_s (i := i) (j := 2) hS1 hL zE_2 (by omega) (by omega), ↓zo_13, m3, zb_s, zthr m4, m2, zE_0, tz, if_true, if_false, zgo]
theorem zcase_8 (hp : ∀ x1 x2 : Int32, zPrI (fun h => zm54 (some (12, 0)) x1 x2 h) (fun h => zm160 (some (13, 0)) x1 x2 h) (fun t => if t = 1 then 2 else if t = 2 then 0 else 1) 3) : zCase fun k => zm291_419 k := by
  intro L xs h s i k hL hI h0 h1
  obtain ⟨hC, hM, hW, hS⟩ := hI
  obtain ⟨t, v, w, s', t0, t3, hW', hc, hwv, hm⟩ := hp (xs (i + 1).toNat) (xs (i + 2).toNat) h s hC hM hW
  have hx : ∀ t : Int, 1 ≤ t → t ≤ 3 → zhnd [(0, 8, 2, 1), (0, 8, 0, 2), (0, 8, 1, 3)] 5 ((fun t => if t = 1 then 2 else if t = 2 then 0 else 1) t) = some t.toNat := by
    intro t a b
    rcases (show t = 1 ∨ t = 2 ∨ t = 3 by omega) with rfl | rfl | rfl <;> rfl
  rcases hc with ⟨rfl, h1, e1, c1, k1, r1, r2⟩ | ⟨tn, h1, e1, c1, k1, r1, r2⟩
  · have hS1 := zSc_1 hS k1
    dsimp only at e1
    have hS2 : zSc L xs (zsl h1 38 0 0 (zE v).toInt64) := hS1
    have hk2 : ∀ k, k ≠ 38 → k ≠ 39 → zct (zsl h1 38 0 0 (zE v).toInt64) k = zct h1 k ∧ zln (zsl h1 38 0 0 (zE v).toInt64) k = zln h1 k ∧ zi (zsl h1 38 0 0 (zE v).toInt64) k = zi h1 k ∧ zr (zsl h1 38 0 0 (zE v).toInt64) k = zr h1 k ∧ zd (zsl h1 38 0 0 (zE v).toInt64) k = zd h1 k ∧ zl (zsl h1 38 0 0 (zE v).toInt64) k = zl h1 k := fun k a _ => ⟨rfl, rfl, rfl, rfl, rfl, zu_k a⟩
    obtain ⟨s'', m1, m2, h3, m3, m4, m5, m6, m7⟩ := hm (zsl h1 38 0 0 (zE v).toInt64) (show zMd h1 s from zMd_1 hM k1)
    dsimp only at m3
    have hI3 := zinv_end hS c1 k1 hk2 ⟨rfl, rfl⟩ m1 m4 m5 hW'
    have hl3 : zl h3 38 0 0 = (zE v).toInt64 := by
      rw [(m5 38 (by unfold zpm1; omega)).2.2.2.2.2]
      exact zl_sl
    refine ⟨h3, s'', hI3, by have a1 : zce (zsl h1 38 0 0 (zE v).toInt64) = zce h1 := rfl; have a2 : zso (zsl h1 38 0 0 (zE v).toInt64) = zso h1 := rfl; omega, by have a1 : zce (zsl h1 38 0 0 (zE v).toInt64) = zce h1 := rfl; have a2 : zso (zsl h1 38 0 0 (zE v).toInt64) = zso h1 := rfl; omega, ?_⟩
    have w1 : zm248 (some (12, 0)) (xs (i + 1).toNat) (xs (i + 2).toNat) (some (38, 0)) h = some (.inl 0, (zsl h1 38 0 0 (zE v).toInt64)) := by
      simp only [zm248, ↓zo_12, e1, zbH_s, ↓zout_s hS1, ↓zlet_s]
    show zm291_419 k _ _ _ _ _ _ _ = _
    simp only [zm291_419, ↓zscr_s (i := i) (j := 1) hS hL zE_1 (by omega) (by omega), ↓zscr_s (i := i) (j := 2) hS hL zE_2 (by omega) (by omega), w1, zb2_s]
    simp only [↓zscr_s (i := i) (j := 1) hS2 hL zE_1 (by omega) (by omega), ↓zscr_s (i := i) (j := 2) hS2 hL zE_2 (by omega) (by omega), ↓zo_13, m3, zb_s, zthr m4, m2, zE_0, if_true]
    rw [← zE_0, zoutr_s hI3.2.2.2, hl3, hwv rfl, lg_cmp_e, if_pos rfl, zgo]
  · have hS1 := zSc_1 hS k1
    dsimp only at e1
    obtain ⟨s'', m1, m2, h3, m3, m4, m5, m6, m7⟩ := hm h1 (zMd_1 hM k1)
    dsimp only at m3
    have hI3 := zinv_end hS c1 k1 (fun k _ _ => ⟨rfl, rfl, rfl, rfl, rfl, rfl⟩) ⟨rfl, rfl⟩ m1 m4 m5 hW'
    refine ⟨h3, s'', hI3, by omega, by omega, ?_⟩
    have e2 : nI t.toNat = zE t := by rw [zE_nI, Int.toNat_of_nonneg t0]
    have w1 : zm248 (some (12, 0)) (xs (i + 1).toNat) (xs (i + 2).toNat) (some (38, 0)) h = some (.inl (zE t), h1) := by
      simp only [zm248, ↓zo_12, e1]
      rw [zbH_x (hx t (by omega) t3), e2]
    have tz : (zE t = zE 0) = False := by rw [zE_inj (by omega) (by omega) (by omega) (by omega)]; exact eq_false tn
    show zm291_419 k _ _ _ _ _ _ _ = _
    simp only [zm291_419, ↓zscr_s (i := i) (j := 1) hS hL zE_1 (by omega) (by omega), ↓zscr_s (i := i) (j := 2) hS hL zE_2 (by omega) (by omega), w1, zb2_s]
    simp only [↓zscr_s (i := i) (j := 1) hS1 hL zE_1 (by omega) (by omega), ↓zscr_s (i := i) (j := 2) hS1 hL zE_2 (by omega) (by omega), ↓zo_13, m3, zb_s, zthr m4, m2, zE_0, tz, if_true, if_false, zgo]
theorem zcase_9 (hp : ∀ x1 : Int32, zPrI (fun h => zm55 (some (12, 0)) x1 h) (fun h => zm161 (some (13, 0)) x1 h) (fun t => if t = 1 then 2 else 1) 2) : zCase fun k => zm291_464 k := by
  intro L xs h s i k hL hI h0 h1
  obtain ⟨hC, hM, hW, hS⟩ := hI
  obtain ⟨t, v, w, s', t0, t3, hW', hc, hwv, hm⟩ := hp (xs (i + 1).toNat) h s hC hM hW
  have hx : ∀ t : Int, 1 ≤ t → t ≤ 2 → zhnd [(0, 7, 2, 1), (0, 7, 1, 2)] 4 ((fun t => if t = 1 then 2 else 1) t) = some t.toNat := by
    intro t a b
    rcases (show t = 1 ∨ t = 2 by omega) with rfl | rfl <;> rfl
  rcases hc with ⟨rfl, h1, e1, c1, k1, r1, r2⟩ | ⟨tn, h1, e1, c1, k1, r1, r2⟩
  · have hS1 := zSc_1 hS k1
    dsimp only at e1
    have hS2 : zSc L xs (zsl h1 38 0 0 (zE v).toInt64) := hS1
    have hk2 : ∀ k, k ≠ 38 → k ≠ 39 → zct (zsl h1 38 0 0 (zE v).toInt64) k = zct h1 k ∧ zln (zsl h1 38 0 0 (zE v).toInt64) k = zln h1 k ∧ zi (zsl h1 38 0 0 (zE v).toInt64) k = zi h1 k ∧ zr (zsl h1 38 0 0 (zE v).toInt64) k = zr h1 k ∧ zd (zsl h1 38 0 0 (zE v).toInt64) k = zd h1 k ∧ zl (zsl h1 38 0 0 (zE v).toInt64) k = zl h1 k := fun k a _ => ⟨rfl, rfl, rfl, rfl, rfl, zu_k a⟩
    obtain ⟨s'', m1, m2, h3, m3, m4, m5, m6, m7⟩ := hm (zsl h1 38 0 0 (zE v).toInt64) (show zMd h1 s from zMd_1 hM k1)
    dsimp only at m3
    have hI3 := zinv_end hS c1 k1 hk2 ⟨rfl, rfl⟩ m1 m4 m5 hW'
    have hl3 : zl h3 38 0 0 = (zE v).toInt64 := by
      rw [(m5 38 (by unfold zpm1; omega)).2.2.2.2.2]
      exact zl_sl
    refine ⟨h3, s'', hI3, by have a1 : zce (zsl h1 38 0 0 (zE v).toInt64) = zce h1 := rfl; have a2 : zso (zsl h1 38 0 0 (zE v).toInt64) = zso h1 := rfl; omega, by have a1 : zce (zsl h1 38 0 0 (zE v).toInt64) = zce h1 := rfl; have a2 : zso (zsl h1 38 0 0 (zE v).toInt64) = zso h1 := rfl; omega, ?_⟩
    have w1 : zm249 (some (12, 0)) (xs (i + 1).toNat) (some (38, 0)) h = some (.inl 0, (zsl h1 38 0 0 (zE v).toInt64)) := by
      simp only [zm249, ↓zo_12, e1, zbH_s, ↓zout_s hS1, ↓zlet_s]
    show zm291_464 k _ _ _ _ _ _ _ = _
    simp only [zm291_464, ↓zscr_s (i := i) (j := 1) hS hL zE_1 (by omega) (by omega), w1, zb2_s]
    simp only [↓zscr_s (i := i) (j := 1) hS2 hL zE_1 (by omega) (by omega), ↓zo_13, m3, zb_s, zthr m4, m2, zE_0, if_true]
    rw [← zE_0, zoutr_s hI3.2.2.2, hl3, hwv rfl, lg_cmp_e, if_pos rfl, zgo]
  · have hS1 := zSc_1 hS k1
    dsimp only at e1
    obtain ⟨s'', m1, m2, h3, m3, m4, m5, m6, m7⟩ := hm h1 (zMd_1 hM k1)
    dsimp only at m3
    have hI3 := zinv_end hS c1 k1 (fun k _ _ => ⟨rfl, rfl, rfl, rfl, rfl, rfl⟩) ⟨rfl, rfl⟩ m1 m4 m5 hW'
    refine ⟨h3, s'', hI3, by omega, by omega, ?_⟩
    have e2 : nI t.toNat = zE t := by rw [zE_nI, Int.toNat_of_nonneg t0]
    have w1 : zm249 (some (12, 0)) (xs (i + 1).toNat) (some (38, 0)) h = some (.inl (zE t), h1) := by
      simp only [zm249, ↓zo_12, e1]
      rw [zbH_x (hx t (by omega) t3), e2]
    have tz : (zE t = zE 0) = False := by rw [zE_inj (by omega) (by omega) (by omega) (by omega)]; exact eq_false tn
    show zm291_464 k _ _ _ _ _ _ _ = _
    simp only [zm291_464, ↓zscr_s (i := i) (j := 1) hS hL zE_1 (by omega) (by omega), w1, zb2_s]
    simp only [↓zscr_s (i := i) (j := 1) hS1 hL zE_1 (by omega) (by omega), ↓zo_13, m3, zb_s, zthr m4, m2, zE_0, tz, if_true, if_false, zgo]
theorem zcase_10 (hp : ∀ x1 : Int32, zPrI (fun h => zm61 (some (12, 0)) x1 h) (fun h => zm162 (some (13, 0)) x1 h) (fun t => 2) 1) : zCase fun k => zm291_499 k := by
  intro L xs h s i k hL hI h0 h1
  obtain ⟨hC, hM, hW, hS⟩ := hI
  obtain ⟨t, v, w, s', t0, t3, hW', hc, hwv, hm⟩ := hp (xs (i + 1).toNat) h s hC hM hW
  have hx : ∀ t : Int, 1 ≤ t → t ≤ 1 → zhnd [(0, 7, 2, 1)] 4 ((fun t => 2) t) = some t.toNat := by
    intro t a b
    obtain rfl : t = 1 := by omega
    rfl
  rcases hc with ⟨rfl, h1, e1, c1, k1, r1, r2⟩ | ⟨tn, h1, e1, c1, k1, r1, r2⟩
  · have hS1 := zSc_1 hS k1
    dsimp only at e1
    have hS2 : zSc L xs (zsl h1 38 0 0 (zE v).toInt64) := hS1
    have hk2 : ∀ k, k ≠ 38 → k ≠ 39 → zct (zsl h1 38 0 0 (zE v).toInt64) k = zct h1 k ∧ zln (zsl h1 38 0 0 (zE v).toInt64) k = zln h1 k ∧ zi (zsl h1 38 0 0 (zE v).toInt64) k = zi h1 k ∧ zr (zsl h1 38 0 0 (zE v).toInt64) k = zr h1 k ∧ zd (zsl h1 38 0 0 (zE v).toInt64) k = zd h1 k ∧ zl (zsl h1 38 0 0 (zE v).toInt64) k = zl h1 k := fun k a _ => ⟨rfl, rfl, rfl, rfl, rfl, zu_k a⟩
    obtain ⟨s'', m1, m2, h3, m3, m4, m5, m6, m7⟩ := hm (zsl h1 38 0 0 (zE v).toInt64) (show zMd h1 s from zMd_1 hM k1)
    dsimp only at m3
    have hI3 := zinv_end hS c1 k1 hk2 ⟨rfl, rfl⟩ m1 m4 m5 hW'
    have hl3 : zl h3 38 0 0 = (zE v).toInt64 := by
      rw [(m5 38 (by unfold zpm1; omega)).2.2.2.2.2]
      exact zl_sl
    refine ⟨h3, s'', hI3, by have a1 : zce (zsl h1 38 0 0 (zE v).toInt64) = zce h1 := rfl; have a2 : zso (zsl h1 38 0 0 (zE v).toInt64) = zso h1 := rfl; omega, by have a1 : zce (zsl h1 38 0 0 (zE v).toInt64) = zce h1 := rfl; have a2 : zso (zsl h1 38 0 0 (zE v).toInt64) = zso h1 := rfl; omega, ?_⟩
    have w1 : zm250 (some (12, 0)) (xs (i + 1).toNat) (some (38, 0)) h = some (.inl 0, (zsl h1 38 0 0 (zE v).toInt64)) := by
      simp only [zm250, ↓zo_12, e1, zbH_s, ↓zout_s hS1, ↓zlet_s]
    show zm291_499 k _ _ _ _ _ _ _ = _
    simp only [zm291_499, ↓zscr_s (i := i) (j := 1) hS hL zE_1 (by omega) (by omega), w1, zb2_s]
    simp only [↓zscr_s (i := i) (j := 1) hS2 hL zE_1 (by omega) (by omega), ↓zo_13, m3, zb_s, zthr m4, m2, zE_0, if_true]
    rw [← zE_0, zoutr_s hI3.2.2.2, hl3, hwv rfl, lg_cmp_e, if_pos rfl, zgo]
  · have hS1 := zSc_1 hS k1
    dsimp only at e1
    obtain ⟨s'', m1, m2, h3, m3, m4, m5, m6, m7⟩ := hm h1 (zMd_1 hM k1)
    dsimp only at m3
    have hI3 := zinv_end hS c1 k1 (fun k _ _ => ⟨rfl, rfl, rfl, rfl, rfl, rfl⟩) ⟨rfl, rfl⟩ m1 m4 m5 hW'
    refine ⟨h3, s'', hI3, by omega, by omega, ?_⟩
    have e2 : nI t.toNat = zE t := by rw [zE_nI, Int.toNat_of_nonneg t0]
    have w1 : zm250 (some (12, 0)) (xs (i + 1).toNat) (some (38, 0)) h = some (.inl (zE t), h1) := by
      simp only [zm250, ↓zo_12, e1]
      rw [zbH_x (hx t (by omega) t3), e2]
    have tz : (zE t = zE 0) = False := by rw [zE_inj (by omega) (by omega) (by omega) (by omega)]; exact eq_false tn
    show zm291_499 k _ _ _ _ _ _ _ = _
    simp only [zm291_499, ↓zscr_s (i := i) (j := 1) hS hL zE_1 (by omega) (by omega), w1, zb2_s]
    simp only [↓zscr_s (i := i) (j := 1) hS1 hL zE_1 (by omega) (by omega), ↓zo_13, m3, zb_s, zthr m4, m2, zE_0, tz, if_true, if_false, zgo]
theorem zcase_11 (hp : ∀ x1 : Int32, zPrI (fun h => zm62 (some (12, 0)) x1 h) (fun h => zm163 (some (13, 0)) x1 h) (fun t => 2) 1) : zCase fun k => zm291_534 k := by
  intro L xs h s i k hL hI h0 h1
  obtain ⟨hC, hM, hW, hS⟩ := hI
  obtain ⟨t, v, w, s', t0, t3, hW', hc, hwv, hm⟩ := hp (xs (i + 1).toNat) h s hC hM hW
  have hx : ∀ t : Int, 1 ≤ t → t ≤ 1 → zhnd [(0, 7, 2, 1)] 4 ((fun t => 2) t) = some t.toNat := by
    intro t a b
    obtain rfl : t = 1 := by omega
    rfl
  rcases hc with ⟨rfl, h1, e1, c1, k1, r1, r2⟩ | ⟨tn, h1, e1, c1, k1, r1, r2⟩
  · have hS1 := zSc_1 hS k1
    dsimp only at e1
    have hS2 : zSc L xs (zsl h1 38 0 0 (zE v).toInt64) := hS1
    have hk2 : ∀ k, k ≠ 38 → k ≠ 39 → zct (zsl h1 38 0 0 (zE v).toInt64) k = zct h1 k ∧ zln (zsl h1 38 0 0 (zE v).toInt64) k = zln h1 k ∧ zi (zsl h1 38 0 0 (zE v).toInt64) k = zi h1 k ∧ zr (zsl h1 38 0 0 (zE v).toInt64) k = zr h1 k ∧ zd (zsl h1 38 0 0 (zE v).toInt64) k = zd h1 k ∧ zl (zsl h1 38 0 0 (zE v).toInt64) k = zl h1 k := fun k a _ => ⟨rfl, rfl, rfl, rfl, rfl, zu_k a⟩
    obtain ⟨s'', m1, m2, h3, m3, m4, m5, m6, m7⟩ := hm (zsl h1 38 0 0 (zE v).toInt64) (show zMd h1 s from zMd_1 hM k1)
    dsimp only at m3
    have hI3 := zinv_end hS c1 k1 hk2 ⟨rfl, rfl⟩ m1 m4 m5 hW'
    have hl3 : zl h3 38 0 0 = (zE v).toInt64 := by
      rw [(m5 38 (by unfold zpm1; omega)).2.2.2.2.2]
      exact zl_sl
    refine ⟨h3, s'', hI3, by have a1 : zce (zsl h1 38 0 0 (zE v).toInt64) = zce h1 := rfl; have a2 : zso (zsl h1 38 0 0 (zE v).toInt64) = zso h1 := rfl; omega, by have a1 : zce (zsl h1 38 0 0 (zE v).toInt64) = zce h1 := rfl; have a2 : zso (zsl h1 38 0 0 (zE v).toInt64) = zso h1 := rfl; omega, ?_⟩
    have w1 : zm251 (some (12, 0)) (xs (i + 1).toNat) (some (38, 0)) h = some (.inl 0, (zsl h1 38 0 0 (zE v).toInt64)) := by
      simp only [zm251, ↓zo_12, e1, zbH_s, ↓zout_s hS1, ↓zlet_s]
    show zm291_534 k _ _ _ _ _ _ _ = _
    simp only [zm291_534, ↓zscr_s (i := i) (j := 1) hS hL zE_1 (by omega) (by omega), w1, zb2_s]
    simp only [↓zscr_s (i := i) (j := 1) hS2 hL zE_1 (by omega) (by omega), ↓zo_13, m3, zb_s, zthr m4, m2, zE_0, if_true]
    rw [← zE_0, zoutr_s hI3.2.2.2, hl3, hwv rfl, lg_cmp_e, if_pos rfl, zgo]
  · have hS1 := zSc_1 hS k1
    dsimp only at e1
    obtain ⟨s'', m1, m2, h3, m3, m4, m5, m6, m7⟩ := hm h1 (zMd_1 hM k1)
    dsimp only at m3
    have hI3 := zinv_end hS c1 k1 (fun k _ _ => ⟨rfl, rfl, rfl, rfl, rfl, rfl⟩) ⟨rfl, rfl⟩ m1 m4 m5 hW'
    refine ⟨h3, s'', hI3, by omega, by omega, ?_⟩
    have e2 : nI t.toNat = zE t := by rw [zE_nI, Int.toNat_of_nonneg t0]
    have w1 : zm251 (some (12, 0)) (xs (i + 1).toNat) (some (38, 0)) h = some (.inl (zE t), h1) := by
      simp only [zm251, ↓zo_12, e1]
      rw [zbH_x (hx t (by omega) t3), e2]
    have tz : (zE t = zE 0) = False := by rw [zE_inj (by omega) (by omega) (by omega) (by omega)]; exact eq_false tn
    show zm291_534 k _ _ _ _ _ _ _ = _
    simp only [zm291_534, ↓zscr_s (i := i) (j := 1) hS hL zE_1 (by omega) (by omega), w1, zb2_s]
    simp only [↓zscr_s (i := i) (j := 1) hS1 hL zE_1 (by omega) (by omega), ↓zo_13, m3, zb_s, zthr m4, m2, zE_0, tz, if_true, if_false, zgo]
theorem zcase_12 (hp : ∀ x1 : Int32, zPrI (fun h => zm63 (some (12, 0)) x1 h) (fun h => zm172 (some (13, 0)) x1 h) (fun t => 2) 1) : zCase fun k => zm291_569 k := by
  intro L xs h s i k hL hI h0 h1
  obtain ⟨hC, hM, hW, hS⟩ := hI
  obtain ⟨t, v, w, s', t0, t3, hW', hc, hwv, hm⟩ := hp (xs (i + 1).toNat) h s hC hM hW
  have hx : ∀ t : Int, 1 ≤ t → t ≤ 1 → zhnd [(0, 7, 2, 1)] 4 ((fun t => 2) t) = some t.toNat := by
    intro t a b
    obtain rfl : t = 1 := by omega
    rfl
  rcases hc with ⟨rfl, h1, e1, c1, k1, r1, r2⟩ | ⟨tn, h1, e1, c1, k1, r1, r2⟩
  · have hS1 := zSc_1 hS k1
    dsimp only at e1
    have hS2 : zSc L xs (zsl h1 38 0 0 (zE v).toInt64) := hS1
    have hk2 : ∀ k, k ≠ 38 → k ≠ 39 → zct (zsl h1 38 0 0 (zE v).toInt64) k = zct h1 k ∧ zln (zsl h1 38 0 0 (zE v).toInt64) k = zln h1 k ∧ zi (zsl h1 38 0 0 (zE v).toInt64) k = zi h1 k ∧ zr (zsl h1 38 0 0 (zE v).toInt64) k = zr h1 k ∧ zd (zsl h1 38 0 0 (zE v).toInt64) k = zd h1 k ∧ zl (zsl h1 38 0 0 (zE v).toInt64) k = zl h1 k := fun k a _ => ⟨rfl, rfl, rfl, rfl, rfl, zu_k a⟩
    obtain ⟨s'', m1, m2, h3, m3, m4, m5, m6, m7⟩ := hm (zsl h1 38 0 0 (zE v).toInt64) (show zMd h1 s from zMd_1 hM k1)
    dsimp only at m3
    have hI3 := zinv_end hS c1 k1 hk2 ⟨rfl, rfl⟩ m1 m4 m5 hW'
    have hl3 : zl h3 38 0 0 = (zE v).toInt64 := by
      rw [(m5 38 (by unfold zpm1; omega)).2.2.2.2.2]
      exact zl_sl
    refine ⟨h3, s'', hI3, by have a1 : zce (zsl h1 38 0 0 (zE v).toInt64) = zce h1 := rfl; have a2 : zso (zsl h1 38 0 0 (zE v).toInt64) = zso h1 := rfl; omega, by have a1 : zce (zsl h1 38 0 0 (zE v).toInt64) = zce h1 := rfl; have a2 : zso (zsl h1 38 0 0 (zE v).toInt64) = zso h1 := rfl; omega, ?_⟩
    have w1 : zm252 (some (12, 0)) (xs (i + 1).toNat) (some (38, 0)) h = some (.inl 0, (zsl h1 38 0 0 (zE v).toInt64)) := by
      simp only [zm252, ↓zo_12, e1, zbH_s, ↓zout_s hS1, ↓zlet_s]
    show zm291_569 k _ _ _ _ _ _ _ = _
    simp only [zm291_569, ↓zscr_s (i := i) (j := 1) hS hL zE_1 (by omega) (by omega), w1, zb2_s]
    simp only [↓zscr_s (i := i) (j := 1) hS2 hL zE_1 (by omega) (by omega), ↓zo_13, m3, zb_s, zthr m4, m2, zE_0, if_true]
    rw [← zE_0, zoutr_s hI3.2.2.2, hl3, hwv rfl, lg_cmp_e, if_pos rfl, zgo]
  · have hS1 := zSc_1 hS k1
    dsimp only at e1
    obtain ⟨s'', m1, m2, h3, m3, m4, m5, m6, m7⟩ := hm h1 (zMd_1 hM k1)
    dsimp only at m3
    have hI3 := zinv_end hS c1 k1 (fun k _ _ => ⟨rfl, rfl, rfl, rfl, rfl, rfl⟩) ⟨rfl, rfl⟩ m1 m4 m5 hW'
    refine ⟨h3, s'', hI3, by omega, by omega, ?_⟩
    have e2 : nI t.toNat = zE t := by rw [zE_nI, Int.toNat_of_nonneg t0]
    have w1 : zm252 (some (12, 0)) (xs (i + 1).toNat) (some (38, 0)) h = some (.inl (zE t), h1) := by
      simp only [zm252, ↓zo_12, e1]
      rw [zbH_x (hx t (by omega) t3), e2]
    have tz : (zE t = zE 0) = False := by rw [zE_inj (by omega) (by omega) (by omega) (by omega)]; exact eq_false tn
    show zm291_569 k _ _ _ _ _ _ _ = _
    simp only [zm291_569, ↓zscr_s (i := i) (j := 1) hS hL zE_1 (by omega) (by omega), w1, zb2_s]
    simp only [↓zscr_s (i := i) (j := 1) hS1 hL zE_1 (by omega) (by omega), ↓zo_13, m3, zb_s, zthr m4, m2, zE_0, tz, if_true, if_false, zgo]
theorem zcase_13 (hp : ∀ x1 : Int32, zPrI (fun h => zm73 (some (12, 0)) x1 h) (fun h => zm186 (some (13, 0)) x1 h) (fun t => if t = 1 then 0 else 1) 2) : zCase fun k => zm291_604 k := by
  intro L xs h s i k hL hI h0 h1
  obtain ⟨hC, hM, hW, hS⟩ := hI
  obtain ⟨t, v, w, s', t0, t3, hW', hc, hwv, hm⟩ := hp (xs (i + 1).toNat) h s hC hM hW
  have hx : ∀ t : Int, 1 ≤ t → t ≤ 2 → zhnd [(0, 7, 0, 1), (0, 7, 1, 2)] 4 ((fun t => if t = 1 then 0 else 1) t) = some t.toNat := by
    intro t a b
    rcases (show t = 1 ∨ t = 2 by omega) with rfl | rfl <;> rfl
  rcases hc with ⟨rfl, h1, e1, c1, k1, r1, r2⟩ | ⟨tn, h1, e1, c1, k1, r1, r2⟩
  · have hS1 := zSc_1 hS k1
    dsimp only at e1
    have hS2 : zSc L xs (zsl h1 38 0 0 (zE v).toInt64) := hS1
    have hk2 : ∀ k, k ≠ 38 → k ≠ 39 → zct (zsl h1 38 0 0 (zE v).toInt64) k = zct h1 k ∧ zln (zsl h1 38 0 0 (zE v).toInt64) k = zln h1 k ∧ zi (zsl h1 38 0 0 (zE v).toInt64) k = zi h1 k ∧ zr (zsl h1 38 0 0 (zE v).toInt64) k = zr h1 k ∧ zd (zsl h1 38 0 0 (zE v).toInt64) k = zd h1 k ∧ zl (zsl h1 38 0 0 (zE v).toInt64) k = zl h1 k := fun k a _ => ⟨rfl, rfl, rfl, rfl, rfl, zu_k a⟩
    obtain ⟨s'', m1, m2, h3, m3, m4, m5, m6, m7⟩ := hm (zsl h1 38 0 0 (zE v).toInt64) (show zMd h1 s from zMd_1 hM k1)
    dsimp only at m3
    have hI3 := zinv_end hS c1 k1 hk2 ⟨rfl, rfl⟩ m1 m4 m5 hW'
    have hl3 : zl h3 38 0 0 = (zE v).toInt64 := by
      rw [(m5 38 (by unfold zpm1; omega)).2.2.2.2.2]
      exact zl_sl
    refine ⟨h3, s'', hI3, by have a1 : zce (zsl h1 38 0 0 (zE v).toInt64) = zce h1 := rfl; have a2 : zso (zsl h1 38 0 0 (zE v).toInt64) = zso h1 := rfl; omega, by have a1 : zce (zsl h1 38 0 0 (zE v).toInt64) = zce h1 := rfl; have a2 : zso (zsl h1 38 0 0 (zE v).toInt64) = zso h1 := rfl; omega, ?_⟩
    have w1 : zm253 (some (12, 0)) (xs (i + 1).toNat) (some (38, 0)) h = some (.inl 0, (zsl h1 38 0 0 (zE v).toInt64)) := by
      simp only [zm253, ↓zo_12, e1, zbH_s, ↓zout_s hS1, ↓zlet_s]
    show zm291_604 k _ _ _ _ _ _ _ = _
    simp only [zm291_604, ↓zscr_s (i := i) (j := 1) hS hL zE_1 (by omega) (by omega), w1, zb2_s]
    simp only [↓zscr_s (i := i) (j := 1) hS2 hL zE_1 (by omega) (by omega), ↓zo_13, m3, zb_s, zthr m4, m2, zE_0, if_true]
    rw [← zE_0, zoutr_s hI3.2.2.2, hl3, hwv rfl, lg_cmp_e, if_pos rfl, zgo]
  · have hS1 := zSc_1 hS k1
    dsimp only at e1
    obtain ⟨s'', m1, m2, h3, m3, m4, m5, m6, m7⟩ := hm h1 (zMd_1 hM k1)
    dsimp only at m3
    have hI3 := zinv_end hS c1 k1 (fun k _ _ => ⟨rfl, rfl, rfl, rfl, rfl, rfl⟩) ⟨rfl, rfl⟩ m1 m4 m5 hW'
    refine ⟨h3, s'', hI3, by omega, by omega, ?_⟩
    have e2 : nI t.toNat = zE t := by rw [zE_nI, Int.toNat_of_nonneg t0]
    have w1 : zm253 (some (12, 0)) (xs (i + 1).toNat) (some (38, 0)) h = some (.inl (zE t), h1) := by
      simp only [zm253, ↓zo_12, e1]
      rw [zbH_x (hx t (by omega) t3), e2]
    have tz : (zE t = zE 0) = False := by rw [zE_inj (by omega) (by omega) (by omega) (by omega)]; exact eq_false tn
    show zm291_604 k _ _ _ _ _ _ _ = _
    simp only [zm291_604, ↓zscr_s (i := i) (j := 1) hS hL zE_1 (by omega) (by omega), w1, zb2_s]
    simp only [↓zscr_s (i := i) (j := 1) hS1 hL zE_1 (by omega) (by omega), ↓zo_13, m3, zb_s, zthr m4, m2, zE_0, tz, if_true, if_false, zgo]
theorem zcase_15 (hp : zPrI (fun h => zm82 (some (12, 0))  h) (fun h => zm188 (some (13, 0))  h) (fun t => 1) 1) : zCase fun k => zm291_669 k := by
  intro L xs h s i k hL hI h0 h1
  obtain ⟨hC, hM, hW, hS⟩ := hI
  obtain ⟨t, v, w, s', t0, t3, hW', hc, hwv, hm⟩ := hp  h s hC hM hW
  have hx : ∀ t : Int, 1 ≤ t → t ≤ 1 → zhnd [(0, 6, 1, 1)] 3 ((fun t => 1) t) = some t.toNat := by
    intro t a b
    obtain rfl : t = 1 := by omega
    rfl
  rcases hc with ⟨rfl, h1, e1, c1, k1, r1, r2⟩ | ⟨tn, h1, e1, c1, k1, r1, r2⟩
  · have hS1 := zSc_1 hS k1
    dsimp only at e1
    have hS2 : zSc L xs (zsl h1 38 0 0 (zE v).toInt64) := hS1
    have hk2 : ∀ k, k ≠ 38 → k ≠ 39 → zct (zsl h1 38 0 0 (zE v).toInt64) k = zct h1 k ∧ zln (zsl h1 38 0 0 (zE v).toInt64) k = zln h1 k ∧ zi (zsl h1 38 0 0 (zE v).toInt64) k = zi h1 k ∧ zr (zsl h1 38 0 0 (zE v).toInt64) k = zr h1 k ∧ zd (zsl h1 38 0 0 (zE v).toInt64) k = zd h1 k ∧ zl (zsl h1 38 0 0 (zE v).toInt64) k = zl h1 k := fun k a _ => ⟨rfl, rfl, rfl, rfl, rfl, zu_k a⟩
    obtain ⟨s'', m1, m2, h3, m3, m4, m5, m6, m7⟩ := hm (zsl h1 38 0 0 (zE v).toInt64) (show zMd h1 s from zMd_1 hM k1)
    dsimp only at m3
    have hI3 := zinv_end hS c1 k1 hk2 ⟨rfl, rfl⟩ m1 m4 m5 hW'
    have hl3 : zl h3 38 0 0 = (zE v).toInt64 := by
      rw [(m5 38 (by unfold zpm1; omega)).2.2.2.2.2]
      exact zl_sl
    refine ⟨h3, s'', hI3, by have a1 : zce (zsl h1 38 0 0 (zE v).toInt64) = zce h1 := rfl; have a2 : zso (zsl h1 38 0 0 (zE v).toInt64) = zso h1 := rfl; omega, by have a1 : zce (zsl h1 38 0 0 (zE v).toInt64) = zce h1 := rfl; have a2 : zso (zsl h1 38 0 0 (zE v).toInt64) = zso h1 := rfl; omega, ?_⟩
    have w1 : zm255 (some (12, 0))  (some (38, 0)) h = some (.inl 0, (zsl h1 38 0 0 (zE v).toInt64)) := by
      simp only [zm255, ↓zo_12, e1, zbH_s, ↓zout_s hS1, ↓zlet_s]
    show zm291_669 k _ _ _ _ _ _ _ = _
    simp only [zm291_669, w1, zb2_s]
    simp only [↓zo_13, m3, zb_s, zthr m4, m2, zE_0, if_true]
    rw [← zE_0, zoutr_s hI3.2.2.2, hl3, hwv rfl, lg_cmp_e, if_pos rfl, zgo]
  · have hS1 := zSc_1 hS k1
    dsimp only at e1
    obtain ⟨s'', m1, m2, h3, m3, m4, m5, m6, m7⟩ := hm h1 (zMd_1 hM k1)
    dsimp only at m3
    have hI3 := zinv_end hS c1 k1 (fun k _ _ => ⟨rfl, rfl, rfl, rfl, rfl, rfl⟩) ⟨rfl, rfl⟩ m1 m4 m5 hW'
    refine ⟨h3, s'', hI3, by omega, by omega, ?_⟩
    have e2 : nI t.toNat = zE t := by rw [zE_nI, Int.toNat_of_nonneg t0]
    have w1 : zm255 (some (12, 0))  (some (38, 0)) h = some (.inl (zE t), h1) := by
      simp only [zm255, ↓zo_12, e1]
      rw [zbH_x (hx t (by omega) t3), e2]
    have tz : (zE t = zE 0) = False := by rw [zE_inj (by omega) (by omega) (by omega) (by omega)]; exact eq_false tn
    show zm291_669 k _ _ _ _ _ _ _ = _
    simp only [zm291_669, w1, zb2_s]
    simp only [↓zo_13, m3, zb_s, zthr m4, m2, zE_0, tz, if_true, if_false, zgo]
theorem zcase_18 (hp : ∀ x1 x2 : Int32, zPrI (fun h => zm85 (some (12, 0)) x1 x2 h) (fun h => zm192 (some (13, 0)) x1 x2 h) (fun t => 0) 1) : zCase fun k => zm291_708 k := by
  intro L xs h s i k hL hI h0 h1
  obtain ⟨hC, hM, hW, hS⟩ := hI
  obtain ⟨t, v, w, s', t0, t3, hW', hc, hwv, hm⟩ := hp (xs (i + 1).toNat) (xs (i + 2).toNat) h s hC hM hW
  have hx : ∀ t : Int, 1 ≤ t → t ≤ 1 → zhnd [(0, 8, 0, 1)] 5 ((fun t => 0) t) = some t.toNat := by
    intro t a b
    obtain rfl : t = 1 := by omega
    rfl
  rcases hc with ⟨rfl, h1, e1, c1, k1, r1, r2⟩ | ⟨tn, h1, e1, c1, k1, r1, r2⟩
  · have hS1 := zSc_1 hS k1
    dsimp only at e1
    have hS2 : zSc L xs (zsl h1 38 0 0 (zE v).toInt64) := hS1
    have hk2 : ∀ k, k ≠ 38 → k ≠ 39 → zct (zsl h1 38 0 0 (zE v).toInt64) k = zct h1 k ∧ zln (zsl h1 38 0 0 (zE v).toInt64) k = zln h1 k ∧ zi (zsl h1 38 0 0 (zE v).toInt64) k = zi h1 k ∧ zr (zsl h1 38 0 0 (zE v).toInt64) k = zr h1 k ∧ zd (zsl h1 38 0 0 (zE v).toInt64) k = zd h1 k ∧ zl (zsl h1 38 0 0 (zE v).toInt64) k = zl h1 k := fun k a _ => ⟨rfl, rfl, rfl, rfl, rfl, zu_k a⟩
    obtain ⟨s'', m1, m2, h3, m3, m4, m5, m6, m7⟩ := hm (zsl h1 38 0 0 (zE v).toInt64) (show zMd h1 s from zMd_1 hM k1)
    dsimp only at m3
    have hI3 := zinv_end hS c1 k1 hk2 ⟨rfl, rfl⟩ m1 m4 m5 hW'
    have hl3 : zl h3 38 0 0 = (zE v).toInt64 := by
      rw [(m5 38 (by unfold zpm1; omega)).2.2.2.2.2]
      exact zl_sl
    refine ⟨h3, s'', hI3, by have a1 : zce (zsl h1 38 0 0 (zE v).toInt64) = zce h1 := rfl; have a2 : zso (zsl h1 38 0 0 (zE v).toInt64) = zso h1 := rfl; omega, by have a1 : zce (zsl h1 38 0 0 (zE v).toInt64) = zce h1 := rfl; have a2 : zso (zsl h1 38 0 0 (zE v).toInt64) = zso h1 := rfl; omega, ?_⟩
    have w1 : zm256 (some (12, 0)) (xs (i + 1).toNat) (xs (i + 2).toNat) (some (38, 0)) h = some (.inl 0, (zsl h1 38 0 0 (zE v).toInt64)) := by
      simp only [zm256, ↓zo_12, e1, zbH_s, ↓zout_s hS1, ↓zlet_s]
    show zm291_708 k _ _ _ _ _ _ _ = _
    simp only [zm291_708, ↓zscr_s (i := i) (j := 1) hS hL zE_1 (by omega) (by omega), ↓zscr_s (i := i) (j := 2) hS hL zE_2 (by omega) (by omega), w1, zb2_s]
    simp only [↓zscr_s (i := i) (j := 1) hS2 hL zE_1 (by omega) (by omega), ↓zscr_s (i := i) (j := 2) hS2 hL zE_2 (by omega) (by omega), ↓zo_13, m3, zb_s, zthr m4, m2, zE_0, if_true]
    rw [← zE_0, zoutr_s hI3.2.2.2, hl3, hwv rfl, lg_cmp_e, if_pos rfl, zgo]
  · have hS1 := zSc_1 hS k1
    dsimp only at e1
    obtain ⟨s'', m1, m2, h3, m3, m4, m5, m6, m7⟩ := hm h1 (zMd_1 hM k1)
    dsimp only at m3
    have hI3 := zinv_end hS c1 k1 (fun k _ _ => ⟨rfl, rfl, rfl, rfl, rfl, rfl⟩) ⟨rfl, rfl⟩ m1 m4 m5 hW'
    refine ⟨h3, s'', hI3, by omega, by omega, ?_⟩
    have e2 : nI t.toNat = zE t := by rw [zE_nI, Int.toNat_of_nonneg t0]
    have w1 : zm256 (some (12, 0)) (xs (i + 1).toNat) (xs (i + 2).toNat) (some (38, 0)) h = some (.inl (zE t), h1) := by
      simp only [zm256, ↓zo_12, e1]
      rw [zbH_x (hx t (by omega) t3), e2]
    have tz : (zE t = zE 0) = False := by rw [zE_inj (by omega) (by omega) (by omega) (by omega)]; exact eq_false tn
    show zm291_708 k _ _ _ _ _ _ _ = _
    simp only [zm291_708, ↓zscr_s (i := i) (j := 1) hS hL zE_1 (by omega) (by omega), ↓zscr_s (i := i) (j := 2) hS hL zE_2 (by omega) (by omega), w1, zb2_s]
    simp only [↓zscr_s (i := i) (j := 1) hS1 hL zE_1 (by omega) (by omega), ↓zscr_s (i := i) (j := 2) hS1 hL zE_2 (by omega) (by omega), ↓zo_13, m3, zb_s, zthr m4, m2, zE_0, tz, if_true, if_false, zgo]
theorem zcase_19 (hp : ∀ x1 x2 : Int32, zPrI (fun h => zm86 (some (12, 0)) x1 x2 h) (fun h => zm193 (some (13, 0)) x1 x2 h) (fun t => 0) 1) : zCase fun k => zm291_753 k := by
  intro L xs h s i k hL hI h0 h1
  obtain ⟨hC, hM, hW, hS⟩ := hI
  obtain ⟨t, v, w, s', t0, t3, hW', hc, hwv, hm⟩ := hp (xs (i + 1).toNat) (xs (i + 2).toNat) h s hC hM hW
  have hx : ∀ t : Int, 1 ≤ t → t ≤ 1 → zhnd [(0, 8, 0, 1)] 5 ((fun t => 0) t) = some t.toNat := by
    intro t a b
    obtain rfl : t = 1 := by omega
    rfl
  rcases hc with ⟨rfl, h1, e1, c1, k1, r1, r2⟩ | ⟨tn, h1, e1, c1, k1, r1, r2⟩
  · have hS1 := zSc_1 hS k1
    dsimp only at e1
    have hS2 : zSc L xs (zsl h1 38 0 0 (zE v).toInt64) := hS1
    have hk2 : ∀ k, k ≠ 38 → k ≠ 39 → zct (zsl h1 38 0 0 (zE v).toInt64) k = zct h1 k ∧ zln (zsl h1 38 0 0 (zE v).toInt64) k = zln h1 k ∧ zi (zsl h1 38 0 0 (zE v).toInt64) k = zi h1 k ∧ zr (zsl h1 38 0 0 (zE v).toInt64) k = zr h1 k ∧ zd (zsl h1 38 0 0 (zE v).toInt64) k = zd h1 k ∧ zl (zsl h1 38 0 0 (zE v).toInt64) k = zl h1 k := fun k a _ => ⟨rfl, rfl, rfl, rfl, rfl, zu_k a⟩
    obtain ⟨s'', m1, m2, h3, m3, m4, m5, m6, m7⟩ := hm (zsl h1 38 0 0 (zE v).toInt64) (show zMd h1 s from zMd_1 hM k1)
    dsimp only at m3
    have hI3 := zinv_end hS c1 k1 hk2 ⟨rfl, rfl⟩ m1 m4 m5 hW'
    have hl3 : zl h3 38 0 0 = (zE v).toInt64 := by
      rw [(m5 38 (by unfold zpm1; omega)).2.2.2.2.2]
      exact zl_sl
    refine ⟨h3, s'', hI3, by have a1 : zce (zsl h1 38 0 0 (zE v).toInt64) = zce h1 := rfl; have a2 : zso (zsl h1 38 0 0 (zE v).toInt64) = zso h1 := rfl; omega, by have a1 : zce (zsl h1 38 0 0 (zE v).toInt64) = zce h1 := rfl; have a2 : zso (zsl h1 38 0 0 (zE v).toInt64) = zso h1 := rfl; omega, ?_⟩
    have w1 : zm257 (some (12, 0)) (xs (i + 1).toNat) (xs (i + 2).toNat) (some (38, 0)) h = some (.inl 0, (zsl h1 38 0 0 (zE v).toInt64)) := by
      simp only [zm257, ↓zo_12, e1, zbH_s, ↓zout_s hS1, ↓zlet_s]
    show zm291_753 k _ _ _ _ _ _ _ = _
    simp only [zm291_753, ↓zscr_s (i := i) (j := 1) hS hL zE_1 (by omega) (by omega), ↓zscr_s (i := i) (j := 2) hS hL zE_2 (by omega) (by omega), w1, zb2_s]
    simp only [↓zscr_s (i := i) (j := 1) hS2 hL zE_1 (by omega) (by omega), ↓zscr_s (i := i) (j := 2) hS2 hL zE_2 (by omega) (by omega), ↓zo_13, m3, zb_s, zthr m4, m2, zE_0, if_true]
    rw [← zE_0, zoutr_s hI3.2.2.2, hl3, hwv rfl, lg_cmp_e, if_pos rfl, zgo]
  · have hS1 := zSc_1 hS k1
    dsimp only at e1
    obtain ⟨s'', m1, m2, h3, m3, m4, m5, m6, m7⟩ := hm h1 (zMd_1 hM k1)
    dsimp only at m3
    have hI3 := zinv_end hS c1 k1 (fun k _ _ => ⟨rfl, rfl, rfl, rfl, rfl, rfl⟩) ⟨rfl, rfl⟩ m1 m4 m5 hW'
    refine ⟨h3, s'', hI3, by omega, by omega, ?_⟩
    have e2 : nI t.toNat = zE t := by rw [zE_nI, Int.toNat_of_nonneg t0]
    have w1 : zm257 (some (12, 0)) (xs (i + 1).toNat) (xs (i + 2).toNat) (some (38, 0)) h = some (.inl (zE t), h1) := by
      simp only [zm257, ↓zo_12, e1]
      rw [zbH_x (hx t (by omega) t3), e2]
    have tz : (zE t = zE 0) = False := by rw [zE_inj (by omega) (by omega) (by omega) (by omega)]; exact eq_false tn
    show zm291_753 k _ _ _ _ _ _ _ = _
    simp only [zm291_753, ↓zscr_s (i := i) (j := 1) hS hL zE_1 (by omega) (by omega), ↓zscr_s (i := i) (j := 2) hS hL zE_2 (by omega) (by omega), w1, zb2_s]
    simp only [↓zscr_s (i := i) (j := 1) hS1 hL zE_1 (by omega) (by omega), ↓zscr_s (i := i) (j := 2) hS1 hL zE_2 (by omega) (by omega), ↓zo_13, m3, zb_s, zthr m4, m2, zE_0, tz, if_true, if_false, zgo]
theorem zcase_20 (hp : ∀ x1 x2 : Int32, zPrI (fun h => zm87 (some (12, 0)) x1 x2 h) (fun h => zm194 (some (13, 0)) x1 x2 h) (fun t => 0) 1) : zCase fun k => zm291_798 k := by
  intro L xs h s i k hL hI h0 h1
  obtain ⟨hC, hM, hW, hS⟩ := hI
  obtain ⟨t, v, w, s', t0, t3, hW', hc, hwv, hm⟩ := hp (xs (i + 1).toNat) (xs (i + 2).toNat) h s hC hM hW
  have hx : ∀ t : Int, 1 ≤ t → t ≤ 1 → zhnd [(0, 8, 0, 1)] 5 ((fun t => 0) t) = some t.toNat := by
    intro t a b
    obtain rfl : t = 1 := by omega
    rfl
  rcases hc with ⟨rfl, h1, e1, c1, k1, r1, r2⟩ | ⟨tn, h1, e1, c1, k1, r1, r2⟩
  · have hS1 := zSc_1 hS k1
    dsimp only at e1
    have hS2 : zSc L xs (zsl h1 38 0 0 (zE v).toInt64) := hS1
    have hk2 : ∀ k, k ≠ 38 → k ≠ 39 → zct (zsl h1 38 0 0 (zE v).toInt64) k = zct h1 k ∧ zln (zsl h1 38 0 0 (zE v).toInt64) k = zln h1 k ∧ zi (zsl h1 38 0 0 (zE v).toInt64) k = zi h1 k ∧ zr (zsl h1 38 0 0 (zE v).toInt64) k = zr h1 k ∧ zd (zsl h1 38 0 0 (zE v).toInt64) k = zd h1 k ∧ zl (zsl h1 38 0 0 (zE v).toInt64) k = zl h1 k := fun k a _ => ⟨rfl, rfl, rfl, rfl, rfl, zu_k a⟩
    obtain ⟨s'', m1, m2, h3, m3, m4, m5, m6, m7⟩ := hm (zsl h1 38 0 0 (zE v).toInt64) (show zMd h1 s from zMd_1 hM k1)
    dsimp only at m3
    have hI3 := zinv_end hS c1 k1 hk2 ⟨rfl, rfl⟩ m1 m4 m5 hW'
    have hl3 : zl h3 38 0 0 = (zE v).toInt64 := by
      rw [(m5 38 (by unfold zpm1; omega)).2.2.2.2.2]
      exact zl_sl
    refine ⟨h3, s'', hI3, by have a1 : zce (zsl h1 38 0 0 (zE v).toInt64) = zce h1 := rfl; have a2 : zso (zsl h1 38 0 0 (zE v).toInt64) = zso h1 := rfl; omega, by have a1 : zce (zsl h1 38 0 0 (zE v).toInt64) = zce h1 := rfl; have a2 : zso (zsl h1 38 0 0 (zE v).toInt64) = zso h1 := rfl; omega, ?_⟩
    have w1 : zm258 (some (12, 0)) (xs (i + 1).toNat) (xs (i + 2).toNat) (some (38, 0)) h = some (.inl 0, (zsl h1 38 0 0 (zE v).toInt64)) := by
      simp only [zm258, ↓zo_12, e1, zbH_s, ↓zout_s hS1, ↓zlet_s]
    show zm291_798 k _ _ _ _ _ _ _ = _
    simp only [zm291_798, ↓zscr_s (i := i) (j := 1) hS hL zE_1 (by omega) (by omega), ↓zscr_s (i := i) (j := 2) hS hL zE_2 (by omega) (by omega), w1, zb2_s]
    simp only [↓zscr_s (i := i) (j := 1) hS2 hL zE_1 (by omega) (by omega), ↓zscr_s (i := i) (j := 2) hS2 hL zE_2 (by omega) (by omega), ↓zo_13, m3, zb_s, zthr m4, m2, zE_0, if_true]
    rw [← zE_0, zoutr_s hI3.2.2.2, hl3, hwv rfl, lg_cmp_e, if_pos rfl, zgo]
  · have hS1 := zSc_1 hS k1
    dsimp only at e1
    obtain ⟨s'', m1, m2, h3, m3, m4, m5, m6, m7⟩ := hm h1 (zMd_1 hM k1)
    dsimp only at m3
    have hI3 := zinv_end hS c1 k1 (fun k _ _ => ⟨rfl, rfl, rfl, rfl, rfl, rfl⟩) ⟨rfl, rfl⟩ m1 m4 m5 hW'
    refine ⟨h3, s'', hI3, by omega, by omega, ?_⟩
    have e2 : nI t.toNat = zE t := by rw [zE_nI, Int.toNat_of_nonneg t0]
    have w1 : zm258 (some (12, 0)) (xs (i + 1).toNat) (xs (i + 2).toNat) (some (38, 0)) h = some (.inl (zE t), h1) := by
      simp only [zm258, ↓zo_12, e1]
      rw [zbH_x (hx t (by omega) t3), e2]
    have tz : (zE t = zE 0) = False := by rw [zE_inj (by omega) (by omega) (by omega) (by omega)]; exact eq_false tn
    show zm291_798 k _ _ _ _ _ _ _ = _
    simp only [zm291_798, ↓zscr_s (i := i) (j := 1) hS hL zE_1 (by omega) (by omega), ↓zscr_s (i := i) (j := 2) hS hL zE_2 (by omega) (by omega), w1, zb2_s]
    simp only [↓zscr_s (i := i) (j := 1) hS1 hL zE_1 (by omega) (by omega), ↓zscr_s (i := i) (j := 2) hS1 hL zE_2 (by omega) (by omega), ↓zo_13, m3, zb_s, zthr m4, m2, zE_0, tz, if_true, if_false, zgo]
theorem zcase_21 (hp : ∀ x1 x2 : Int32, zPrI (fun h => zm88 (some (12, 0)) x1 x2 h) (fun h => zm197 (some (13, 0)) x1 x2 h) (fun t => 0) 1) : zCase fun k => zm291_843 k := by
  intro L xs h s i k hL hI h0 h1
  obtain ⟨hC, hM, hW, hS⟩ := hI
  obtain ⟨t, v, w, s', t0, t3, hW', hc, hwv, hm⟩ := hp (xs (i + 1).toNat) (xs (i + 2).toNat) h s hC hM hW
  have hx : ∀ t : Int, 1 ≤ t → t ≤ 1 → zhnd [(0, 8, 0, 1)] 5 ((fun t => 0) t) = some t.toNat := by
    intro t a b
    obtain rfl : t = 1 := by omega
    rfl
  rcases hc with ⟨rfl, h1, e1, c1, k1, r1, r2⟩ | ⟨tn, h1, e1, c1, k1, r1, r2⟩
  · have hS1 := zSc_1 hS k1
    dsimp only at e1
    have hS2 : zSc L xs (zsl h1 38 0 0 (zE v).toInt64) := hS1
    have hk2 : ∀ k, k ≠ 38 → k ≠ 39 → zct (zsl h1 38 0 0 (zE v).toInt64) k = zct h1 k ∧ zln (zsl h1 38 0 0 (zE v).toInt64) k = zln h1 k ∧ zi (zsl h1 38 0 0 (zE v).toInt64) k = zi h1 k ∧ zr (zsl h1 38 0 0 (zE v).toInt64) k = zr h1 k ∧ zd (zsl h1 38 0 0 (zE v).toInt64) k = zd h1 k ∧ zl (zsl h1 38 0 0 (zE v).toInt64) k = zl h1 k := fun k a _ => ⟨rfl, rfl, rfl, rfl, rfl, zu_k a⟩
    obtain ⟨s'', m1, m2, h3, m3, m4, m5, m6, m7⟩ := hm (zsl h1 38 0 0 (zE v).toInt64) (show zMd h1 s from zMd_1 hM k1)
    dsimp only at m3
    have hI3 := zinv_end hS c1 k1 hk2 ⟨rfl, rfl⟩ m1 m4 m5 hW'
    have hl3 : zl h3 38 0 0 = (zE v).toInt64 := by
      rw [(m5 38 (by unfold zpm1; omega)).2.2.2.2.2]
      exact zl_sl
    refine ⟨h3, s'', hI3, by have a1 : zce (zsl h1 38 0 0 (zE v).toInt64) = zce h1 := rfl; have a2 : zso (zsl h1 38 0 0 (zE v).toInt64) = zso h1 := rfl; omega, by have a1 : zce (zsl h1 38 0 0 (zE v).toInt64) = zce h1 := rfl; have a2 : zso (zsl h1 38 0 0 (zE v).toInt64) = zso h1 := rfl; omega, ?_⟩
    have w1 : zm259 (some (12, 0)) (xs (i + 1).toNat) (xs (i + 2).toNat) (some (38, 0)) h = some (.inl 0, (zsl h1 38 0 0 (zE v).toInt64)) := by
      simp only [zm259, ↓zo_12, e1, zbH_s, ↓zout_s hS1, ↓zlet_s]
    show zm291_843 k _ _ _ _ _ _ _ = _
    simp only [zm291_843, ↓zscr_s (i := i) (j := 1) hS hL zE_1 (by omega) (by omega), ↓zscr_s (i := i) (j := 2) hS hL zE_2 (by omega) (by omega), w1, zb2_s]
    simp only [↓zscr_s (i := i) (j := 1) hS2 hL zE_1 (by omega) (by omega), ↓zscr_s (i := i) (j := 2) hS2 hL zE_2 (by omega) (by omega), ↓zo_13, m3, zb_s, zthr m4, m2, zE_0, if_true]
    rw [← zE_0, zoutr_s hI3.2.2.2, hl3, hwv rfl, lg_cmp_e, if_pos rfl, zgo]
  · have hS1 := zSc_1 hS k1
    dsimp only at e1
    obtain ⟨s'', m1, m2, h3, m3, m4, m5, m6, m7⟩ := hm h1 (zMd_1 hM k1)
    dsimp only at m3
    have hI3 := zinv_end hS c1 k1 (fun k _ _ => ⟨rfl, rfl, rfl, rfl, rfl, rfl⟩) ⟨rfl, rfl⟩ m1 m4 m5 hW'
    refine ⟨h3, s'', hI3, by omega, by omega, ?_⟩
    have e2 : nI t.toNat = zE t := by rw [zE_nI, Int.toNat_of_nonneg t0]
    have w1 : zm259 (some (12, 0)) (xs (i + 1).toNat) (xs (i + 2).toNat) (some (38, 0)) h = some (.inl (zE t), h1) := by
      simp only [zm259, ↓zo_12, e1]
      rw [zbH_x (hx t (by omega) t3), e2]
    have tz : (zE t = zE 0) = False := by rw [zE_inj (by omega) (by omega) (by omega) (by omega)]; exact eq_false tn
    show zm291_843 k _ _ _ _ _ _ _ = _
    simp only [zm291_843, ↓zscr_s (i := i) (j := 1) hS hL zE_1 (by omega) (by omega), ↓zscr_s (i := i) (j := 2) hS hL zE_2 (by omega) (by omega), w1, zb2_s]
    simp only [↓zscr_s (i := i) (j := 1) hS1 hL zE_1 (by omega) (by omega), ↓zscr_s (i := i) (j := 2) hS1 hL zE_2 (by omega) (by omega), ↓zo_13, m3, zb_s, zthr m4, m2, zE_0, tz, if_true, if_false, zgo]
theorem zcase_22 (hp : ∀ x1 x2 : Int32, zPrI (fun h => zm90 (some (12, 0)) x1 x2 h) (fun h => zm198 (some (13, 0)) x1 x2 h) (fun t => if t = 1 then 2 else 0) 2) : zCase fun k => zm291_888 k := by
  intro L xs h s i k hL hI h0 h1
  obtain ⟨hC, hM, hW, hS⟩ := hI
  obtain ⟨t, v, w, s', t0, t3, hW', hc, hwv, hm⟩ := hp (xs (i + 1).toNat) (xs (i + 2).toNat) h s hC hM hW
  have hx : ∀ t : Int, 1 ≤ t → t ≤ 2 → zhnd [(0, 8, 2, 1), (0, 8, 0, 2)] 5 ((fun t => if t = 1 then 2 else 0) t) = some t.toNat := by
    intro t a b
    rcases (show t = 1 ∨ t = 2 by omega) with rfl | rfl <;> rfl
  rcases hc with ⟨rfl, h1, e1, c1, k1, r1, r2⟩ | ⟨tn, h1, e1, c1, k1, r1, r2⟩
  · have hS1 := zSc_1 hS k1
    dsimp only at e1
    have hS2 : zSc L xs (zsl h1 38 0 0 (zE v).toInt64) := hS1
    have hk2 : ∀ k, k ≠ 38 → k ≠ 39 → zct (zsl h1 38 0 0 (zE v).toInt64) k = zct h1 k ∧ zln (zsl h1 38 0 0 (zE v).toInt64) k = zln h1 k ∧ zi (zsl h1 38 0 0 (zE v).toInt64) k = zi h1 k ∧ zr (zsl h1 38 0 0 (zE v).toInt64) k = zr h1 k ∧ zd (zsl h1 38 0 0 (zE v).toInt64) k = zd h1 k ∧ zl (zsl h1 38 0 0 (zE v).toInt64) k = zl h1 k := fun k a _ => ⟨rfl, rfl, rfl, rfl, rfl, zu_k a⟩
    obtain ⟨s'', m1, m2, h3, m3, m4, m5, m6, m7⟩ := hm (zsl h1 38 0 0 (zE v).toInt64) (show zMd h1 s from zMd_1 hM k1)
    dsimp only at m3
    have hI3 := zinv_end hS c1 k1 hk2 ⟨rfl, rfl⟩ m1 m4 m5 hW'
    have hl3 : zl h3 38 0 0 = (zE v).toInt64 := by
      rw [(m5 38 (by unfold zpm1; omega)).2.2.2.2.2]
      exact zl_sl
    refine ⟨h3, s'', hI3, by have a1 : zce (zsl h1 38 0 0 (zE v).toInt64) = zce h1 := rfl; have a2 : zso (zsl h1 38 0 0 (zE v).toInt64) = zso h1 := rfl; omega, by have a1 : zce (zsl h1 38 0 0 (zE v).toInt64) = zce h1 := rfl; have a2 : zso (zsl h1 38 0 0 (zE v).toInt64) = zso h1 := rfl; omega, ?_⟩
    have w1 : zm260 (some (12, 0)) (xs (i + 1).toNat) (xs (i + 2).toNat) (some (38, 0)) h = some (.inl 0, (zsl h1 38 0 0 (zE v).toInt64)) := by
      simp only [zm260, ↓zo_12, e1, zbH_s, ↓zout_s hS1, ↓zlet_s]
    show zm291_888 k _ _ _ _ _ _ _ = _
    simp only [zm291_888, ↓zscr_s (i := i) (j := 1) hS hL zE_1 (by omega) (by omega), ↓zscr_s (i := i) (j := 2) hS hL zE_2 (by omega) (by omega), w1, zb2_s]
    simp only [↓zscr_s (i := i) (j := 1) hS2 hL zE_1 (by omega) (by omega), ↓zscr_s (i := i) (j := 2) hS2 hL zE_2 (by omega) (by omega), ↓zo_13, m3, zb_s, zthr m4, m2, zE_0, if_true]
    rw [← zE_0, zoutr_s hI3.2.2.2, hl3, hwv rfl, lg_cmp_e, if_pos rfl, zgo]
  · have hS1 := zSc_1 hS k1
    dsimp only at e1
    obtain ⟨s'', m1, m2, h3, m3, m4, m5, m6, m7⟩ := hm h1 (zMd_1 hM k1)
    dsimp only at m3
    have hI3 := zinv_end hS c1 k1 (fun k _ _ => ⟨rfl, rfl, rfl, rfl, rfl, rfl⟩) ⟨rfl, rfl⟩ m1 m4 m5 hW'
    refine ⟨h3, s'', hI3, by omega, by omega, ?_⟩
    have e2 : nI t.toNat = zE t := by rw [zE_nI, Int.toNat_of_nonneg t0]
    have w1 : zm260 (some (12, 0)) (xs (i + 1).toNat) (xs (i + 2).toNat) (some (38, 0)) h = some (.inl (zE t), h1) := by
      simp only [zm260, ↓zo_12, e1]
      rw [zbH_x (hx t (by omega) t3), e2]
    have tz : (zE t = zE 0) = False := by rw [zE_inj (by omega) (by omega) (by omega) (by omega)]; exact eq_false tn
    show zm291_888 k _ _ _ _ _ _ _ = _
    simp only [zm291_888, ↓zscr_s (i := i) (j := 1) hS hL zE_1 (by omega) (by omega), ↓zscr_s (i := i) (j := 2) hS hL zE_2 (by omega) (by omega), w1, zb2_s]
    simp only [↓zscr_s (i := i) (j := 1) hS1 hL zE_1 (by omega) (by omega), ↓zscr_s (i := i) (j := 2) hS1 hL zE_2 (by omega) (by omega), ↓zo_13, m3, zb_s, zthr m4, m2, zE_0, tz, if_true, if_false, zgo]
theorem zcase_23 (hp : ∀ x1 x2 : Int32, zPrI (fun h => zm91 (some (12, 0)) x1 x2 h) (fun h => zm199 (some (13, 0)) x1 x2 h) (fun t => if t = 1 then 0 else 1) 2) : zCase fun k => zm291_933 k := by
  intro L xs h s i k hL hI h0 h1
  obtain ⟨hC, hM, hW, hS⟩ := hI
  obtain ⟨t, v, w, s', t0, t3, hW', hc, hwv, hm⟩ := hp (xs (i + 1).toNat) (xs (i + 2).toNat) h s hC hM hW
  have hx : ∀ t : Int, 1 ≤ t → t ≤ 2 → zhnd [(0, 8, 0, 1), (0, 8, 1, 2)] 5 ((fun t => if t = 1 then 0 else 1) t) = some t.toNat := by
    intro t a b
    rcases (show t = 1 ∨ t = 2 by omega) with rfl | rfl <;> rfl
  rcases hc with ⟨rfl, h1, e1, c1, k1, r1, r2⟩ | ⟨tn, h1, e1, c1, k1, r1, r2⟩
  · have hS1 := zSc_1 hS k1
    dsimp only at e1
    have hS2 : zSc L xs (zsl h1 38 0 0 (zE v).toInt64) := hS1
    have hk2 : ∀ k, k ≠ 38 → k ≠ 39 → zct (zsl h1 38 0 0 (zE v).toInt64) k = zct h1 k ∧ zln (zsl h1 38 0 0 (zE v).toInt64) k = zln h1 k ∧ zi (zsl h1 38 0 0 (zE v).toInt64) k = zi h1 k ∧ zr (zsl h1 38 0 0 (zE v).toInt64) k = zr h1 k ∧ zd (zsl h1 38 0 0 (zE v).toInt64) k = zd h1 k ∧ zl (zsl h1 38 0 0 (zE v).toInt64) k = zl h1 k := fun k a _ => ⟨rfl, rfl, rfl, rfl, rfl, zu_k a⟩
    obtain ⟨s'', m1, m2, h3, m3, m4, m5, m6, m7⟩ := hm (zsl h1 38 0 0 (zE v).toInt64) (show zMd h1 s from zMd_1 hM k1)
    dsimp only at m3
    have hI3 := zinv_end hS c1 k1 hk2 ⟨rfl, rfl⟩ m1 m4 m5 hW'
    have hl3 : zl h3 38 0 0 = (zE v).toInt64 := by
      rw [(m5 38 (by unfold zpm1; omega)).2.2.2.2.2]
      exact zl_sl
    refine ⟨h3, s'', hI3, by have a1 : zce (zsl h1 38 0 0 (zE v).toInt64) = zce h1 := rfl; have a2 : zso (zsl h1 38 0 0 (zE v).toInt64) = zso h1 := rfl; omega, by have a1 : zce (zsl h1 38 0 0 (zE v).toInt64) = zce h1 := rfl; have a2 : zso (zsl h1 38 0 0 (zE v).toInt64) = zso h1 := rfl; omega, ?_⟩
    have w1 : zm261 (some (12, 0)) (xs (i + 1).toNat) (xs (i + 2).toNat) (some (38, 0)) h = some (.inl 0, (zsl h1 38 0 0 (zE v).toInt64)) := by
      simp only [zm261, ↓zo_12, e1, zbH_s, ↓zout_s hS1, ↓zlet_s]
    show zm291_933 k _ _ _ _ _ _ _ = _
    simp only [zm291_933, ↓zscr_s (i := i) (j := 1) hS hL zE_1 (by omega) (by omega), ↓zscr_s (i := i) (j := 2) hS hL zE_2 (by omega) (by omega), w1, zb2_s]
    simp only [↓zscr_s (i := i) (j := 1) hS2 hL zE_1 (by omega) (by omega), ↓zscr_s (i := i) (j := 2) hS2 hL zE_2 (by omega) (by omega), ↓zo_13, m3, zb_s, zthr m4, m2, zE_0, if_true]
    rw [← zE_0, zoutr_s hI3.2.2.2, hl3, hwv rfl, lg_cmp_e, if_pos rfl, zgo]
  · have hS1 := zSc_1 hS k1
    dsimp only at e1
    obtain ⟨s'', m1, m2, h3, m3, m4, m5, m6, m7⟩ := hm h1 (zMd_1 hM k1)
    dsimp only at m3
    have hI3 := zinv_end hS c1 k1 (fun k _ _ => ⟨rfl, rfl, rfl, rfl, rfl, rfl⟩) ⟨rfl, rfl⟩ m1 m4 m5 hW'
    refine ⟨h3, s'', hI3, by omega, by omega, ?_⟩
    have e2 : nI t.toNat = zE t := by rw [zE_nI, Int.toNat_of_nonneg t0]
    have w1 : zm261 (some (12, 0)) (xs (i + 1).toNat) (xs (i + 2).toNat) (some (38, 0)) h = some (.inl (zE t), h1) := by
      simp only [zm261, ↓zo_12, e1]
      rw [zbH_x (hx t (by omega) t3), e2]
    have tz : (zE t = zE 0) = False := by rw [zE_inj (by omega) (by omega) (by omega) (by omega)]; exact eq_false tn
    show zm291_933 k _ _ _ _ _ _ _ = _
    simp only [zm291_933, ↓zscr_s (i := i) (j := 1) hS hL zE_1 (by omega) (by omega), ↓zscr_s (i := i) (j := 2) hS hL zE_2 (by omega) (by omega), w1, zb2_s]
    simp only [↓zscr_s (i := i) (j := 1) hS1 hL zE_1 (by omega) (by omega), ↓zscr_s (i := i) (j := 2) hS1 hL zE_2 (by omega) (by omega), ↓zo_13, m3, zb_s, zthr m4, m2, zE_0, tz, if_true, if_false, zgo]
theorem zcase_24 (hp : ∀ x1 x2 : Int32, zPrI (fun h => zm92 (some (12, 0)) x1 x2 h) (fun h => zm200 (some (13, 0)) x1 x2 h) (fun t => if t = 1 then 0 else 1) 2) : zCase fun k => zm291_978 k := by
  intro L xs h s i k hL hI h0 h1
  obtain ⟨hC, hM, hW, hS⟩ := hI
  obtain ⟨t, v, w, s', t0, t3, hW', hc, hwv, hm⟩ := hp (xs (i + 1).toNat) (xs (i + 2).toNat) h s hC hM hW
  have hx : ∀ t : Int, 1 ≤ t → t ≤ 2 → zhnd [(0, 8, 0, 1), (0, 8, 1, 2)] 5 ((fun t => if t = 1 then 0 else 1) t) = some t.toNat := by
    intro t a b
    rcases (show t = 1 ∨ t = 2 by omega) with rfl | rfl <;> rfl
  rcases hc with ⟨rfl, h1, e1, c1, k1, r1, r2⟩ | ⟨tn, h1, e1, c1, k1, r1, r2⟩
  · have hS1 := zSc_1 hS k1
    dsimp only at e1
    have hS2 : zSc L xs (zsl h1 38 0 0 (zE v).toInt64) := hS1
    have hk2 : ∀ k, k ≠ 38 → k ≠ 39 → zct (zsl h1 38 0 0 (zE v).toInt64) k = zct h1 k ∧ zln (zsl h1 38 0 0 (zE v).toInt64) k = zln h1 k ∧ zi (zsl h1 38 0 0 (zE v).toInt64) k = zi h1 k ∧ zr (zsl h1 38 0 0 (zE v).toInt64) k = zr h1 k ∧ zd (zsl h1 38 0 0 (zE v).toInt64) k = zd h1 k ∧ zl (zsl h1 38 0 0 (zE v).toInt64) k = zl h1 k := fun k a _ => ⟨rfl, rfl, rfl, rfl, rfl, zu_k a⟩
    obtain ⟨s'', m1, m2, h3, m3, m4, m5, m6, m7⟩ := hm (zsl h1 38 0 0 (zE v).toInt64) (show zMd h1 s from zMd_1 hM k1)
    dsimp only at m3
    have hI3 := zinv_end hS c1 k1 hk2 ⟨rfl, rfl⟩ m1 m4 m5 hW'
    have hl3 : zl h3 38 0 0 = (zE v).toInt64 := by
      rw [(m5 38 (by unfold zpm1; omega)).2.2.2.2.2]
      exact zl_sl
    refine ⟨h3, s'', hI3, by have a1 : zce (zsl h1 38 0 0 (zE v).toInt64) = zce h1 := rfl; have a2 : zso (zsl h1 38 0 0 (zE v).toInt64) = zso h1 := rfl; omega, by have a1 : zce (zsl h1 38 0 0 (zE v).toInt64) = zce h1 := rfl; have a2 : zso (zsl h1 38 0 0 (zE v).toInt64) = zso h1 := rfl; omega, ?_⟩
    have w1 : zm262 (some (12, 0)) (xs (i + 1).toNat) (xs (i + 2).toNat) (some (38, 0)) h = some (.inl 0, (zsl h1 38 0 0 (zE v).toInt64)) := by
      simp only [zm262, ↓zo_12, e1, zbH_s, ↓zout_s hS1, ↓zlet_s]
    show zm291_978 k _ _ _ _ _ _ _ = _
    simp only [zm291_978, ↓zscr_s (i := i) (j := 1) hS hL zE_1 (by omega) (by omega), ↓zscr_s (i := i) (j := 2) hS hL zE_2 (by omega) (by omega), w1, zb2_s]
    simp only [↓zscr_s (i := i) (j := 1) hS2 hL zE_1 (by omega) (by omega), ↓zscr_s (i := i) (j := 2) hS2 hL zE_2 (by omega) (by omega), ↓zo_13, m3, zb_s, zthr m4, m2, zE_0, if_true]
    rw [← zE_0, zoutr_s hI3.2.2.2, hl3, hwv rfl, lg_cmp_e, if_pos rfl, zgo]
  · have hS1 := zSc_1 hS k1
    dsimp only at e1
    obtain ⟨s'', m1, m2, h3, m3, m4, m5, m6, m7⟩ := hm h1 (zMd_1 hM k1)
    dsimp only at m3
    have hI3 := zinv_end hS c1 k1 (fun k _ _ => ⟨rfl, rfl, rfl, rfl, rfl, rfl⟩) ⟨rfl, rfl⟩ m1 m4 m5 hW'
    refine ⟨h3, s'', hI3, by omega, by omega, ?_⟩
    have e2 : nI t.toNat = zE t := by rw [zE_nI, Int.toNat_of_nonneg t0]
    have w1 : zm262 (some (12, 0)) (xs (i + 1).toNat) (xs (i + 2).toNat) (some (38, 0)) h = some (.inl (zE t), h1) := by
      simp only [zm262, ↓zo_12, e1]
      rw [zbH_x (hx t (by omega) t3), e2]
    have tz : (zE t = zE 0) = False := by rw [zE_inj (by omega) (by omega) (by omega) (by omega)]; exact eq_false tn
    show zm291_978 k _ _ _ _ _ _ _ = _
    simp only [zm291_978, ↓zscr_s (i := i) (j := 1) hS hL zE_1 (by omega) (by omega), ↓zscr_s (i := i) (j := 2) hS hL zE_2 (by omega) (by omega), w1, zb2_s]
    simp only [↓zscr_s (i := i) (j := 1) hS1 hL zE_1 (by omega) (by omega), ↓zscr_s (i := i) (j := 2) hS1 hL zE_2 (by omega) (by omega), ↓zo_13, m3, zb_s, zthr m4, m2, zE_0, tz, if_true, if_false, zgo]
theorem zcase_25 (hp : ∀ x1 x2 : Int32, zPrI (fun h => zm93 (some (12, 0)) x1 x2 h) (fun h => zm201 (some (13, 0)) x1 x2 h) (fun t => 0) 1) : zCase fun k => zm291_1023 k := by
  intro L xs h s i k hL hI h0 h1
  obtain ⟨hC, hM, hW, hS⟩ := hI
  obtain ⟨t, v, w, s', t0, t3, hW', hc, hwv, hm⟩ := hp (xs (i + 1).toNat) (xs (i + 2).toNat) h s hC hM hW
  have hx : ∀ t : Int, 1 ≤ t → t ≤ 1 → zhnd [(0, 8, 0, 1)] 5 ((fun t => 0) t) = some t.toNat := by
    intro t a b
    obtain rfl : t = 1 := by omega
    rfl
  rcases hc with ⟨rfl, h1, e1, c1, k1, r1, r2⟩ | ⟨tn, h1, e1, c1, k1, r1, r2⟩
  · have hS1 := zSc_1 hS k1
    dsimp only at e1
    have hS2 : zSc L xs (zsl h1 38 0 0 (zE v).toInt64) := hS1
    have hk2 : ∀ k, k ≠ 38 → k ≠ 39 → zct (zsl h1 38 0 0 (zE v).toInt64) k = zct h1 k ∧ zln (zsl h1 38 0 0 (zE v).toInt64) k = zln h1 k ∧ zi (zsl h1 38 0 0 (zE v).toInt64) k = zi h1 k ∧ zr (zsl h1 38 0 0 (zE v).toInt64) k = zr h1 k ∧ zd (zsl h1 38 0 0 (zE v).toInt64) k = zd h1 k ∧ zl (zsl h1 38 0 0 (zE v).toInt64) k = zl h1 k := fun k a _ => ⟨rfl, rfl, rfl, rfl, rfl, zu_k a⟩
    obtain ⟨s'', m1, m2, h3, m3, m4, m5, m6, m7⟩ := hm (zsl h1 38 0 0 (zE v).toInt64) (show zMd h1 s from zMd_1 hM k1)
    dsimp only at m3
    have hI3 := zinv_end hS c1 k1 hk2 ⟨rfl, rfl⟩ m1 m4 m5 hW'
    have hl3 : zl h3 38 0 0 = (zE v).toInt64 := by
      rw [(m5 38 (by unfold zpm1; omega)).2.2.2.2.2]
      exact zl_sl
    refine ⟨h3, s'', hI3, by have a1 : zce (zsl h1 38 0 0 (zE v).toInt64) = zce h1 := rfl; have a2 : zso (zsl h1 38 0 0 (zE v).toInt64) = zso h1 := rfl; omega, by have a1 : zce (zsl h1 38 0 0 (zE v).toInt64) = zce h1 := rfl; have a2 : zso (zsl h1 38 0 0 (zE v).toInt64) = zso h1 := rfl; omega, ?_⟩
    have w1 : zm263 (some (12, 0)) (xs (i + 1).toNat) (xs (i + 2).toNat) (some (38, 0)) h = some (.inl 0, (zsl h1 38 0 0 (zE v).toInt64)) := by
      simp only [zm263, ↓zo_12, e1, zbH_s, ↓zout_s hS1, ↓zlet_s]
    show zm291_1023 k _ _ _ _ _ _ _ = _
    simp only [zm291_1023, ↓zscr_s (i := i) (j := 1) hS hL zE_1 (by omega) (by omega), ↓zscr_s (i := i) (j := 2) hS hL zE_2 (by omega) (by omega), w1, zb2_s]
    simp only [↓zscr_s (i := i) (j := 1) hS2 hL zE_1 (by omega) (by omega), ↓zscr_s (i := i) (j := 2) hS2 hL zE_2 (by omega) (by omega), ↓zo_13, m3, zb_s, zthr m4, m2, zE_0, if_true]
    rw [← zE_0, zoutr_s hI3.2.2.2, hl3, hwv rfl, lg_cmp_e, if_pos rfl, zgo]
  · have hS1 := zSc_1 hS k1
    dsimp only at e1
    obtain ⟨s'', m1, m2, h3, m3, m4, m5, m6, m7⟩ := hm h1 (zMd_1 hM k1)
    dsimp only at m3
    have hI3 := zinv_end hS c1 k1 (fun k _ _ => ⟨rfl, rfl, rfl, rfl, rfl, rfl⟩) ⟨rfl, rfl⟩ m1 m4 m5 hW'
    refine ⟨h3, s'', hI3, by omega, by omega, ?_⟩
    have e2 : nI t.toNat = zE t := by rw [zE_nI, Int.toNat_of_nonneg t0]
    have w1 : zm263 (some (12, 0)) (xs (i + 1).toNat) (xs (i + 2).toNat) (some (38, 0)) h = some (.inl (zE t), h1) := by
      simp only [zm263, ↓zo_12, e1]
      rw [zbH_x (hx t (by omega) t3), e2]
    have tz : (zE t = zE 0) = False := by rw [zE_inj (by omega) (by omega) (by omega) (by omega)]; exact eq_false tn
    show zm291_1023 k _ _ _ _ _ _ _ = _
    simp only [zm291_1023, ↓zscr_s (i := i) (j := 1) hS hL zE_1 (by omega) (by omega), ↓zscr_s (i := i) (j := 2) hS hL zE_2 (by omega) (by omega), w1, zb2_s]
    simp only [↓zscr_s (i := i) (j := 1) hS1 hL zE_1 (by omega) (by omega), ↓zscr_s (i := i) (j := 2) hS1 hL zE_2 (by omega) (by omega), ↓zo_13, m3, zb_s, zthr m4, m2, zE_0, tz, if_true, if_false, zgo]
theorem zcase_26 (hp : ∀ x1 x2 : Int32, zPrV (fun h => zm94 (some (12, 0)) x1 x2 h) (fun h => zm204 (some (13, 0)) x1 x2 h) (fun t => if t = 1 then 0 else 1) 2) : zCase fun k => zm291_1068 k := by
  intro L xs h s i k hL hI h0 h1
  obtain ⟨hC, hM, hW, hS⟩ := hI
  obtain ⟨t, s', t0, t3, hW', hc, hm⟩ := hp (xs (i + 1).toNat) (xs (i + 2).toNat) h s hC hM hW
  have hx : ∀ t : Int, 1 ≤ t → t ≤ 2 → zhnd [(0, 4, 0, 1), (0, 4, 1, 2)] 3 ((fun t => if t = 1 then 0 else 1) t) = some t.toNat := by
    intro t a b
    rcases (show t = 1 ∨ t = 2 by omega) with rfl | rfl <;> rfl
  rcases hc with ⟨rfl, h1, e1, c1, k1, r1, r2⟩ | ⟨tn, h1, e1, c1, k1, r1, r2⟩
  · have hS1 := zSc_1 hS k1
    dsimp only at e1
    have hS2 : zSc L xs h1 := hS1
    obtain ⟨s'', m1, m2, h3, m3, m4, m5, m6, m7⟩ := hm h1 (zMd_1 hM k1)
    dsimp only at m3
    have hI3 := zinv_end hS c1 k1 (fun k _ _ => ⟨rfl, rfl, rfl, rfl, rfl, rfl⟩) ⟨rfl, rfl⟩ m1 m4 m5 hW'
    refine ⟨h3, s'', hI3, by omega, by omega, ?_⟩
    have w1 : zm264 (some (12, 0)) (xs (i + 1).toNat) (xs (i + 2).toNat) h = some (.inl 0, h1) := by
      simp only [zm264, ↓zo_12, e1, zbH_s]
    show zm291_1068 k _ _ _ _ _ _ _ = _
    simp only [zm291_1068, ↓zscr_s (i := i) (j := 1) hS hL zE_1 (by omega) (by omega), ↓zscr_s (i := i) (j := 2) hS hL zE_2 (by omega) (by omega), w1, zb2_s]
    simp only [↓zscr_s (i := i) (j := 1) hS2 hL zE_1 (by omega) (by omega), ↓zscr_s (i := i) (j := 2) hS2 hL zE_2 (by omega) (by omega), ↓zo_13, m3, zb_s, zthr m4, m2, zE_0, if_true]
    exact zgo
  · have hS1 := zSc_1 hS k1
    dsimp only at e1
    obtain ⟨s'', m1, m2, h3, m3, m4, m5, m6, m7⟩ := hm h1 (zMd_1 hM k1)
    dsimp only at m3
    have hI3 := zinv_end hS c1 k1 (fun k _ _ => ⟨rfl, rfl, rfl, rfl, rfl, rfl⟩) ⟨rfl, rfl⟩ m1 m4 m5 hW'
    refine ⟨h3, s'', hI3, by omega, by omega, ?_⟩
    have e2 : nI t.toNat = zE t := by rw [zE_nI, Int.toNat_of_nonneg t0]
    have w1 : zm264 (some (12, 0)) (xs (i + 1).toNat) (xs (i + 2).toNat) h = some (.inl (zE t), h1) := by
      simp only [zm264, ↓zo_12, e1]
      rw [zbH_x (hx t (by omega) t3), e2]
    have tz : (zE t = zE 0) = False := by rw [zE_inj (by omega) (by omega) (by omega) (by omega)]; exact eq_false tn
    show zm291_1068 k _ _ _ _ _ _ _ = _
    simp only [zm291_1068, ↓zscr_s (i := i) (j := 1) hS hL zE_1 (by omega) (by omega), ↓zscr_s (i := i) (j := 2) hS hL zE_2 (by omega) (by omega), w1, zb2_s]
    simp only [↓zscr_s (i := i) (j := 1) hS1 hL zE_1 (by omega) (by omega), ↓zscr_s (i := i) (j := 2) hS1 hL zE_2 (by omega) (by omega), ↓zo_13, m3, zb_s, zthr m4, m2, zE_0, tz, if_true, if_false, zgo]
theorem zcase_27 (hp : ∀ x1 x2 x3 : Int32, zPrV (fun h => zm95 (some (12, 0)) x1 x2 x3 h) (fun h => zm205 (some (13, 0)) x1 x2 x3 h) (fun t => if t = 1 then 0 else 1) 2) : zCase fun k => zm291_1100 k := by
  intro L xs h s i k hL hI h0 h1
  obtain ⟨hC, hM, hW, hS⟩ := hI
  obtain ⟨t, s', t0, t3, hW', hc, hm⟩ := hp (xs (i + 1).toNat) (xs (i + 2).toNat) (xs (i + 3).toNat) h s hC hM hW
  have hx : ∀ t : Int, 1 ≤ t → t ≤ 2 → zhnd [(0, 5, 0, 1), (0, 5, 1, 2)] 4 ((fun t => if t = 1 then 0 else 1) t) = some t.toNat := by
    intro t a b
    rcases (show t = 1 ∨ t = 2 by omega) with rfl | rfl <;> rfl
  rcases hc with ⟨rfl, h1, e1, c1, k1, r1, r2⟩ | ⟨tn, h1, e1, c1, k1, r1, r2⟩
  · have hS1 := zSc_1 hS k1
    dsimp only at e1
    have hS2 : zSc L xs h1 := hS1
    obtain ⟨s'', m1, m2, h3, m3, m4, m5, m6, m7⟩ := hm h1 (zMd_1 hM k1)
    dsimp only at m3
    have hI3 := zinv_end hS c1 k1 (fun k _ _ => ⟨rfl, rfl, rfl, rfl, rfl, rfl⟩) ⟨rfl, rfl⟩ m1 m4 m5 hW'
    refine ⟨h3, s'', hI3, by omega, by omega, ?_⟩
    have w1 : zm265 (some (12, 0)) (xs (i + 1).toNat) (xs (i + 2).toNat) (xs (i + 3).toNat) h = some (.inl 0, h1) := by
      simp only [zm265, ↓zo_12, e1, zbH_s]
    show zm291_1100 k _ _ _ _ _ _ _ = _
    simp only [zm291_1100, ↓zscr_s (i := i) (j := 1) hS hL zE_1 (by omega) (by omega), ↓zscr_s (i := i) (j := 2) hS hL zE_2 (by omega) (by omega), ↓zscr_s (i := i) (j := 3) hS hL zE_3 (by omega) (by omega), w1, zb2_s]
    simp only [↓zscr_s (i := i) (j := 1) hS2 hL zE_1 (by omega) (by omega), ↓zscr_s (i := i) (j := 2) hS2 hL zE_2 (by omega) (by omega), ↓zscr_s (i := i) (j := 3) hS2 hL zE_3 (by omega) (by omega), ↓zo_13, m3, zb_s, zthr m4, m2, zE_0, if_true]
    exact zgo
  · have hS1 := zSc_1 hS k1
    dsimp only at e1
    obtain ⟨s'', m1, m2, h3, m3, m4, m5, m6, m7⟩ := hm h1 (zMd_1 hM k1)
    dsimp only at m3
    have hI3 := zinv_end hS c1 k1 (fun k _ _ => ⟨rfl, rfl, rfl, rfl, rfl, rfl⟩) ⟨rfl, rfl⟩ m1 m4 m5 hW'
    refine ⟨h3, s'', hI3, by omega, by omega, ?_⟩
    have e2 : nI t.toNat = zE t := by rw [zE_nI, Int.toNat_of_nonneg t0]
    have w1 : zm265 (some (12, 0)) (xs (i + 1).toNat) (xs (i + 2).toNat) (xs (i + 3).toNat) h = some (.inl (zE t), h1) := by
      simp only [zm265, ↓zo_12, e1]
      rw [zbH_x (hx t (by omega) t3), e2]
    have tz : (zE t = zE 0) = False := by rw [zE_inj (by omega) (by omega) (by omega) (by omega)]; exact eq_false tn
    show zm291_1100 k _ _ _ _ _ _ _ = _
    simp only [zm291_1100, ↓zscr_s (i := i) (j := 1) hS hL zE_1 (by omega) (by omega), ↓zscr_s (i := i) (j := 2) hS hL zE_2 (by omega) (by omega), ↓zscr_s (i := i) (j := 3) hS hL zE_3 (by omega) (by omega), w1, zb2_s]
    simp only [↓zscr_s (i := i) (j := 1) hS1 hL zE_1 (by omega) (by omega), ↓zscr_s (i := i) (j := 2) hS1 hL zE_2 (by omega) (by omega), ↓zscr_s (i := i) (j := 3) hS1 hL zE_3 (by omega) (by omega), ↓zo_13, m3, zb_s, zthr m4, m2, zE_0, tz, if_true, if_false, zgo]
theorem zcase_28 (hp : ∀ x1 : Int32, zPrI (fun h => zm97 (some (12, 0)) x1 h) (fun h => zm206 (some (13, 0)) x1 h) (fun t => if t = 1 then 0 else 1) 2) : zCase fun k => zm291_1142 k := by
  intro L xs h s i k hL hI h0 h1
  obtain ⟨hC, hM, hW, hS⟩ := hI
  obtain ⟨t, v, w, s', t0, t3, hW', hc, hwv, hm⟩ := hp (xs (i + 1).toNat) h s hC hM hW
  have hx : ∀ t : Int, 1 ≤ t → t ≤ 2 → zhnd [(0, 7, 0, 1), (0, 7, 1, 2)] 4 ((fun t => if t = 1 then 0 else 1) t) = some t.toNat := by
    intro t a b
    rcases (show t = 1 ∨ t = 2 by omega) with rfl | rfl <;> rfl
  rcases hc with ⟨rfl, h1, e1, c1, k1, r1, r2⟩ | ⟨tn, h1, e1, c1, k1, r1, r2⟩
  · have hS1 := zSc_1 hS k1
    dsimp only at e1
    have hS2 : zSc L xs (zsl h1 38 0 0 (zE v).toInt64) := hS1
    have hk2 : ∀ k, k ≠ 38 → k ≠ 39 → zct (zsl h1 38 0 0 (zE v).toInt64) k = zct h1 k ∧ zln (zsl h1 38 0 0 (zE v).toInt64) k = zln h1 k ∧ zi (zsl h1 38 0 0 (zE v).toInt64) k = zi h1 k ∧ zr (zsl h1 38 0 0 (zE v).toInt64) k = zr h1 k ∧ zd (zsl h1 38 0 0 (zE v).toInt64) k = zd h1 k ∧ zl (zsl h1 38 0 0 (zE v).toInt64) k = zl h1 k := fun k a _ => ⟨rfl, rfl, rfl, rfl, rfl, zu_k a⟩
    obtain ⟨s'', m1, m2, h3, m3, m4, m5, m6, m7⟩ := hm (zsl h1 38 0 0 (zE v).toInt64) (show zMd h1 s from zMd_1 hM k1)
    dsimp only at m3
    have hI3 := zinv_end hS c1 k1 hk2 ⟨rfl, rfl⟩ m1 m4 m5 hW'
    have hl3 : zl h3 38 0 0 = (zE v).toInt64 := by
      rw [(m5 38 (by unfold zpm1; omega)).2.2.2.2.2]
      exact zl_sl
    refine ⟨h3, s'', hI3, by have a1 : zce (zsl h1 38 0 0 (zE v).toInt64) = zce h1 := rfl; have a2 : zso (zsl h1 38 0 0 (zE v).toInt64) = zso h1 := rfl; omega, by have a1 : zce (zsl h1 38 0 0 (zE v).toInt64) = zce h1 := rfl; have a2 : zso (zsl h1 38 0 0 (zE v).toInt64) = zso h1 := rfl; omega, ?_⟩
    have w1 : zm266 (some (12, 0)) (xs (i + 1).toNat) (some (38, 0)) h = some (.inl 0, (zsl h1 38 0 0 (zE v).toInt64)) := by
      simp only [zm266, ↓zo_12, e1, zbH_s, ↓zout_s hS1, ↓zlet_s]
    show zm291_1142 k _ _ _ _ _ _ _ = _
    simp only [zm291_1142, ↓zscr_s (i := i) (j := 1) hS hL zE_1 (by omega) (by omega), w1, zb2_s]
    simp only [↓zscr_s (i := i) (j := 1) hS2 hL zE_1 (by omega) (by omega), ↓zo_13, m3, zb_s, zthr m4, m2, zE_0, if_true]
    rw [← zE_0, zoutr_s hI3.2.2.2, hl3, hwv rfl, lg_cmp_e, if_pos rfl, zgo]
  · have hS1 := zSc_1 hS k1
    dsimp only at e1
    obtain ⟨s'', m1, m2, h3, m3, m4, m5, m6, m7⟩ := hm h1 (zMd_1 hM k1)
    dsimp only at m3
    have hI3 := zinv_end hS c1 k1 (fun k _ _ => ⟨rfl, rfl, rfl, rfl, rfl, rfl⟩) ⟨rfl, rfl⟩ m1 m4 m5 hW'
    refine ⟨h3, s'', hI3, by omega, by omega, ?_⟩
    have e2 : nI t.toNat = zE t := by rw [zE_nI, Int.toNat_of_nonneg t0]
    have w1 : zm266 (some (12, 0)) (xs (i + 1).toNat) (some (38, 0)) h = some (.inl (zE t), h1) := by
      simp only [zm266, ↓zo_12, e1]
      rw [zbH_x (hx t (by omega) t3), e2]
    have tz : (zE t = zE 0) = False := by rw [zE_inj (by omega) (by omega) (by omega) (by omega)]; exact eq_false tn
    show zm291_1142 k _ _ _ _ _ _ _ = _
    simp only [zm291_1142, ↓zscr_s (i := i) (j := 1) hS hL zE_1 (by omega) (by omega), w1, zb2_s]
    simp only [↓zscr_s (i := i) (j := 1) hS1 hL zE_1 (by omega) (by omega), ↓zo_13, m3, zb_s, zthr m4, m2, zE_0, tz, if_true, if_false, zgo]
theorem zcase_29 (hp : ∀ x1 x2 : Int32, zPrV (fun h => zm98 (some (12, 0)) x1 x2 h) (fun h => zm207 (some (13, 0)) x1 x2 h) (fun t => if t = 1 then 0 else 1) 2) : zCase fun k => zm291_1177 k := by
  intro L xs h s i k hL hI h0 h1
  obtain ⟨hC, hM, hW, hS⟩ := hI
  obtain ⟨t, s', t0, t3, hW', hc, hm⟩ := hp (xs (i + 1).toNat) (xs (i + 2).toNat) h s hC hM hW
  have hx : ∀ t : Int, 1 ≤ t → t ≤ 2 → zhnd [(0, 4, 0, 1), (0, 4, 1, 2)] 3 ((fun t => if t = 1 then 0 else 1) t) = some t.toNat := by
    intro t a b
    rcases (show t = 1 ∨ t = 2 by omega) with rfl | rfl <;> rfl
  rcases hc with ⟨rfl, h1, e1, c1, k1, r1, r2⟩ | ⟨tn, h1, e1, c1, k1, r1, r2⟩
  · have hS1 := zSc_1 hS k1
    dsimp only at e1
    have hS2 : zSc L xs h1 := hS1
    obtain ⟨s'', m1, m2, h3, m3, m4, m5, m6, m7⟩ := hm h1 (zMd_1 hM k1)
    dsimp only at m3
    have hI3 := zinv_end hS c1 k1 (fun k _ _ => ⟨rfl, rfl, rfl, rfl, rfl, rfl⟩) ⟨rfl, rfl⟩ m1 m4 m5 hW'
    refine ⟨h3, s'', hI3, by omega, by omega, ?_⟩
    have w1 : zm267 (some (12, 0)) (xs (i + 1).toNat) (xs (i + 2).toNat) h = some (.inl 0, h1) := by
      simp only [zm267, ↓zo_12, e1, zbH_s]
    show zm291_1177 k _ _ _ _ _ _ _ = _
    simp only [zm291_1177, ↓zscr_s (i := i) (j := 1) hS hL zE_1 (by omega) (by omega), ↓zscr_s (i := i) (j := 2) hS hL zE_2 (by omega) (by omega), w1, zb2_s]
    simp only [↓zscr_s (i := i) (j := 1) hS2 hL zE_1 (by omega) (by omega), ↓zscr_s (i := i) (j := 2) hS2 hL zE_2 (by omega) (by omega), ↓zo_13, m3, zb_s, zthr m4, m2, zE_0, if_true]
    exact zgo
  · have hS1 := zSc_1 hS k1
    dsimp only at e1
    obtain ⟨s'', m1, m2, h3, m3, m4, m5, m6, m7⟩ := hm h1 (zMd_1 hM k1)
    dsimp only at m3
    have hI3 := zinv_end hS c1 k1 (fun k _ _ => ⟨rfl, rfl, rfl, rfl, rfl, rfl⟩) ⟨rfl, rfl⟩ m1 m4 m5 hW'
    refine ⟨h3, s'', hI3, by omega, by omega, ?_⟩
    have e2 : nI t.toNat = zE t := by rw [zE_nI, Int.toNat_of_nonneg t0]
    have w1 : zm267 (some (12, 0)) (xs (i + 1).toNat) (xs (i + 2).toNat) h = some (.inl (zE t), h1) := by
      simp only [zm267, ↓zo_12, e1]
      rw [zbH_x (hx t (by omega) t3), e2]
    have tz : (zE t = zE 0) = False := by rw [zE_inj (by omega) (by omega) (by omega) (by omega)]; exact eq_false tn
    show zm291_1177 k _ _ _ _ _ _ _ = _
    simp only [zm291_1177, ↓zscr_s (i := i) (j := 1) hS hL zE_1 (by omega) (by omega), ↓zscr_s (i := i) (j := 2) hS hL zE_2 (by omega) (by omega), w1, zb2_s]
    simp only [↓zscr_s (i := i) (j := 1) hS1 hL zE_1 (by omega) (by omega), ↓zscr_s (i := i) (j := 2) hS1 hL zE_2 (by omega) (by omega), ↓zo_13, m3, zb_s, zthr m4, m2, zE_0, tz, if_true, if_false, zgo]
theorem zcase_30 (hp : ∀ x1 x2 : Int32, zPrI (fun h => zm100 (some (12, 0)) x1 x2 h) (fun h => zm208 (some (13, 0)) x1 x2 h) (fun t => 0) 1) : zCase fun k => zm291_1209 k := by
  intro L xs h s i k hL hI h0 h1
  obtain ⟨hC, hM, hW, hS⟩ := hI
  obtain ⟨t, v, w, s', t0, t3, hW', hc, hwv, hm⟩ := hp (xs (i + 1).toNat) (xs (i + 2).toNat) h s hC hM hW
  have hx : ∀ t : Int, 1 ≤ t → t ≤ 1 → zhnd [(0, 8, 0, 1)] 5 ((fun t => 0) t) = some t.toNat := by
    intro t a b
    obtain rfl : t = 1 := by omega
    rfl
  rcases hc with ⟨rfl, h1, e1, c1, k1, r1, r2⟩ | ⟨tn, h1, e1, c1, k1, r1, r2⟩
  · have hS1 := zSc_1 hS k1
    dsimp only at e1
    have hS2 : zSc L xs (zsl h1 38 0 0 (zE v).toInt64) := hS1
    have hk2 : ∀ k, k ≠ 38 → k ≠ 39 → zct (zsl h1 38 0 0 (zE v).toInt64) k = zct h1 k ∧ zln (zsl h1 38 0 0 (zE v).toInt64) k = zln h1 k ∧ zi (zsl h1 38 0 0 (zE v).toInt64) k = zi h1 k ∧ zr (zsl h1 38 0 0 (zE v).toInt64) k = zr h1 k ∧ zd (zsl h1 38 0 0 (zE v).toInt64) k = zd h1 k ∧ zl (zsl h1 38 0 0 (zE v).toInt64) k = zl h1 k := fun k a _ => ⟨rfl, rfl, rfl, rfl, rfl, zu_k a⟩
    obtain ⟨s'', m1, m2, h3, m3, m4, m5, m6, m7⟩ := hm (zsl h1 38 0 0 (zE v).toInt64) (show zMd h1 s from zMd_1 hM k1)
    dsimp only at m3
    have hI3 := zinv_end hS c1 k1 hk2 ⟨rfl, rfl⟩ m1 m4 m5 hW'
    have hl3 : zl h3 38 0 0 = (zE v).toInt64 := by
      rw [(m5 38 (by unfold zpm1; omega)).2.2.2.2.2]
      exact zl_sl
    refine ⟨h3, s'', hI3, by have a1 : zce (zsl h1 38 0 0 (zE v).toInt64) = zce h1 := rfl; have a2 : zso (zsl h1 38 0 0 (zE v).toInt64) = zso h1 := rfl; omega, by have a1 : zce (zsl h1 38 0 0 (zE v).toInt64) = zce h1 := rfl; have a2 : zso (zsl h1 38 0 0 (zE v).toInt64) = zso h1 := rfl; omega, ?_⟩
    have w1 : zm268 (some (12, 0)) (xs (i + 1).toNat) (xs (i + 2).toNat) (some (38, 0)) h = some (.inl 0, (zsl h1 38 0 0 (zE v).toInt64)) := by
      simp only [zm268, ↓zo_12, e1, zbH_s, ↓zout_s hS1, ↓zlet_s]
    show zm291_1209 k _ _ _ _ _ _ _ = _
    simp only [zm291_1209, ↓zscr_s (i := i) (j := 1) hS hL zE_1 (by omega) (by omega), ↓zscr_s (i := i) (j := 2) hS hL zE_2 (by omega) (by omega), w1, zb2_s]
    simp only [↓zscr_s (i := i) (j := 1) hS2 hL zE_1 (by omega) (by omega), ↓zscr_s (i := i) (j := 2) hS2 hL zE_2 (by omega) (by omega), ↓zo_13, m3, zb_s, zthr m4, m2, zE_0, if_true]
    rw [← zE_0, zoutr_s hI3.2.2.2, hl3, hwv rfl, lg_cmp_e, if_pos rfl, zgo]
  · have hS1 := zSc_1 hS k1
    dsimp only at e1
    obtain ⟨s'', m1, m2, h3, m3, m4, m5, m6, m7⟩ := hm h1 (zMd_1 hM k1)
    dsimp only at m3
    have hI3 := zinv_end hS c1 k1 (fun k _ _ => ⟨rfl, rfl, rfl, rfl, rfl, rfl⟩) ⟨rfl, rfl⟩ m1 m4 m5 hW'
    refine ⟨h3, s'', hI3, by omega, by omega, ?_⟩
    have e2 : nI t.toNat = zE t := by rw [zE_nI, Int.toNat_of_nonneg t0]
    have w1 : zm268 (some (12, 0)) (xs (i + 1).toNat) (xs (i + 2).toNat) (some (38, 0)) h = some (.inl (zE t), h1) := by
      simp only [zm268, ↓zo_12, e1]
      rw [zbH_x (hx t (by omega) t3), e2]
    have tz : (zE t = zE 0) = False := by rw [zE_inj (by omega) (by omega) (by omega) (by omega)]; exact eq_false tn
    show zm291_1209 k _ _ _ _ _ _ _ = _
    simp only [zm291_1209, ↓zscr_s (i := i) (j := 1) hS hL zE_1 (by omega) (by omega), ↓zscr_s (i := i) (j := 2) hS hL zE_2 (by omega) (by omega), w1, zb2_s]
    simp only [↓zscr_s (i := i) (j := 1) hS1 hL zE_1 (by omega) (by omega), ↓zscr_s (i := i) (j := 2) hS1 hL zE_2 (by omega) (by omega), ↓zo_13, m3, zb_s, zthr m4, m2, zE_0, tz, if_true, if_false, zgo]
theorem zcase_33 (hp : ∀ x1 x2 : Int32, zPrI (fun h => zm103 (some (12, 0)) x1 x2 h) (fun h => zm216 (some (13, 0)) x1 x2 h) (fun t => 0) 1) : zCase fun k => zm291_1401 k := by
  intro L xs h s i k hL hI h0 h1
  obtain ⟨hC, hM, hW, hS⟩ := hI
  obtain ⟨t, v, w, s', t0, t3, hW', hc, hwv, hm⟩ := hp (xs (i + 1).toNat) (xs (i + 2).toNat) h s hC hM hW
  have hx : ∀ t : Int, 1 ≤ t → t ≤ 1 → zhnd [(0, 8, 0, 1)] 5 ((fun t => 0) t) = some t.toNat := by
    intro t a b
    obtain rfl : t = 1 := by omega
    rfl
  rcases hc with ⟨rfl, h1, e1, c1, k1, r1, r2⟩ | ⟨tn, h1, e1, c1, k1, r1, r2⟩
  · have hS1 := zSc_1 hS k1
    dsimp only at e1
    have hS2 : zSc L xs (zsl h1 38 0 0 (zE v).toInt64) := hS1
    have hk2 : ∀ k, k ≠ 38 → k ≠ 39 → zct (zsl h1 38 0 0 (zE v).toInt64) k = zct h1 k ∧ zln (zsl h1 38 0 0 (zE v).toInt64) k = zln h1 k ∧ zi (zsl h1 38 0 0 (zE v).toInt64) k = zi h1 k ∧ zr (zsl h1 38 0 0 (zE v).toInt64) k = zr h1 k ∧ zd (zsl h1 38 0 0 (zE v).toInt64) k = zd h1 k ∧ zl (zsl h1 38 0 0 (zE v).toInt64) k = zl h1 k := fun k a _ => ⟨rfl, rfl, rfl, rfl, rfl, zu_k a⟩
    obtain ⟨s'', m1, m2, h3, m3, m4, m5, m6, m7⟩ := hm (zsl h1 38 0 0 (zE v).toInt64) (show zMd h1 s from zMd_1 hM k1)
    dsimp only at m3
    have hI3 := zinv_end hS c1 k1 hk2 ⟨rfl, rfl⟩ m1 m4 m5 hW'
    have hl3 : zl h3 38 0 0 = (zE v).toInt64 := by
      rw [(m5 38 (by unfold zpm1; omega)).2.2.2.2.2]
      exact zl_sl
    refine ⟨h3, s'', hI3, by have a1 : zce (zsl h1 38 0 0 (zE v).toInt64) = zce h1 := rfl; have a2 : zso (zsl h1 38 0 0 (zE v).toInt64) = zso h1 := rfl; omega, by have a1 : zce (zsl h1 38 0 0 (zE v).toInt64) = zce h1 := rfl; have a2 : zso (zsl h1 38 0 0 (zE v).toInt64) = zso h1 := rfl; omega, ?_⟩
    have w1 : zm271 (some (12, 0)) (xs (i + 1).toNat) (xs (i + 2).toNat) (some (38, 0)) h = some (.inl 0, (zsl h1 38 0 0 (zE v).toInt64)) := by
      simp only [zm271, ↓zo_12, e1, zbH_s, ↓zout_s hS1, ↓zlet_s]
    show zm291_1401 k _ _ _ _ _ _ _ = _
    simp only [zm291_1401, ↓zscr_s (i := i) (j := 1) hS hL zE_1 (by omega) (by omega), ↓zscr_s (i := i) (j := 2) hS hL zE_2 (by omega) (by omega), w1, zb2_s]
    simp only [↓zscr_s (i := i) (j := 1) hS2 hL zE_1 (by omega) (by omega), ↓zscr_s (i := i) (j := 2) hS2 hL zE_2 (by omega) (by omega), ↓zo_13, m3, zb_s, zthr m4, m2, zE_0, if_true]
    rw [← zE_0, zoutr_s hI3.2.2.2, hl3, hwv rfl, lg_cmp_e, if_pos rfl, zgo]
  · have hS1 := zSc_1 hS k1
    dsimp only at e1
    obtain ⟨s'', m1, m2, h3, m3, m4, m5, m6, m7⟩ := hm h1 (zMd_1 hM k1)
    dsimp only at m3
    have hI3 := zinv_end hS c1 k1 (fun k _ _ => ⟨rfl, rfl, rfl, rfl, rfl, rfl⟩) ⟨rfl, rfl⟩ m1 m4 m5 hW'
    refine ⟨h3, s'', hI3, by omega, by omega, ?_⟩
    have e2 : nI t.toNat = zE t := by rw [zE_nI, Int.toNat_of_nonneg t0]
    have w1 : zm271 (some (12, 0)) (xs (i + 1).toNat) (xs (i + 2).toNat) (some (38, 0)) h = some (.inl (zE t), h1) := by
      simp only [zm271, ↓zo_12, e1]
      rw [zbH_x (hx t (by omega) t3), e2]
    have tz : (zE t = zE 0) = False := by rw [zE_inj (by omega) (by omega) (by omega) (by omega)]; exact eq_false tn
    show zm291_1401 k _ _ _ _ _ _ _ = _
    simp only [zm291_1401, ↓zscr_s (i := i) (j := 1) hS hL zE_1 (by omega) (by omega), ↓zscr_s (i := i) (j := 2) hS hL zE_2 (by omega) (by omega), w1, zb2_s]
    simp only [↓zscr_s (i := i) (j := 1) hS1 hL zE_1 (by omega) (by omega), ↓zscr_s (i := i) (j := 2) hS1 hL zE_2 (by omega) (by omega), ↓zo_13, m3, zb_s, zthr m4, m2, zE_0, tz, if_true, if_false, zgo]
theorem zcase_34 (hp : ∀ x1 x2 : Int32, zPrI (fun h => zm104 (some (12, 0)) x1 x2 h) (fun h => zm217 (some (13, 0)) x1 x2 h) (fun t => 0) 1) : zCase fun k => zm291_1446 k := by
  intro L xs h s i k hL hI h0 h1
  obtain ⟨hC, hM, hW, hS⟩ := hI
  obtain ⟨t, v, w, s', t0, t3, hW', hc, hwv, hm⟩ := hp (xs (i + 1).toNat) (xs (i + 2).toNat) h s hC hM hW
  have hx : ∀ t : Int, 1 ≤ t → t ≤ 1 → zhnd [(0, 8, 0, 1)] 5 ((fun t => 0) t) = some t.toNat := by
    intro t a b
    obtain rfl : t = 1 := by omega
    rfl
  rcases hc with ⟨rfl, h1, e1, c1, k1, r1, r2⟩ | ⟨tn, h1, e1, c1, k1, r1, r2⟩
  · have hS1 := zSc_1 hS k1
    dsimp only at e1
    have hS2 : zSc L xs (zsl h1 38 0 0 (zE v).toInt64) := hS1
    have hk2 : ∀ k, k ≠ 38 → k ≠ 39 → zct (zsl h1 38 0 0 (zE v).toInt64) k = zct h1 k ∧ zln (zsl h1 38 0 0 (zE v).toInt64) k = zln h1 k ∧ zi (zsl h1 38 0 0 (zE v).toInt64) k = zi h1 k ∧ zr (zsl h1 38 0 0 (zE v).toInt64) k = zr h1 k ∧ zd (zsl h1 38 0 0 (zE v).toInt64) k = zd h1 k ∧ zl (zsl h1 38 0 0 (zE v).toInt64) k = zl h1 k := fun k a _ => ⟨rfl, rfl, rfl, rfl, rfl, zu_k a⟩
    obtain ⟨s'', m1, m2, h3, m3, m4, m5, m6, m7⟩ := hm (zsl h1 38 0 0 (zE v).toInt64) (show zMd h1 s from zMd_1 hM k1)
    dsimp only at m3
    have hI3 := zinv_end hS c1 k1 hk2 ⟨rfl, rfl⟩ m1 m4 m5 hW'
    have hl3 : zl h3 38 0 0 = (zE v).toInt64 := by
      rw [(m5 38 (by unfold zpm1; omega)).2.2.2.2.2]
      exact zl_sl
    refine ⟨h3, s'', hI3, by have a1 : zce (zsl h1 38 0 0 (zE v).toInt64) = zce h1 := rfl; have a2 : zso (zsl h1 38 0 0 (zE v).toInt64) = zso h1 := rfl; omega, by have a1 : zce (zsl h1 38 0 0 (zE v).toInt64) = zce h1 := rfl; have a2 : zso (zsl h1 38 0 0 (zE v).toInt64) = zso h1 := rfl; omega, ?_⟩
    have w1 : zm272 (some (12, 0)) (xs (i + 1).toNat) (xs (i + 2).toNat) (some (38, 0)) h = some (.inl 0, (zsl h1 38 0 0 (zE v).toInt64)) := by
      simp only [zm272, ↓zo_12, e1, zbH_s, ↓zout_s hS1, ↓zlet_s]
    show zm291_1446 k _ _ _ _ _ _ _ = _
    simp only [zm291_1446, ↓zscr_s (i := i) (j := 1) hS hL zE_1 (by omega) (by omega), ↓zscr_s (i := i) (j := 2) hS hL zE_2 (by omega) (by omega), w1, zb2_s]
    simp only [↓zscr_s (i := i) (j := 1) hS2 hL zE_1 (by omega) (by omega), ↓zscr_s (i := i) (j := 2) hS2 hL zE_2 (by omega) (by omega), ↓zo_13, m3, zb_s, zthr m4, m2, zE_0, if_true]
    rw [← zE_0, zoutr_s hI3.2.2.2, hl3, hwv rfl, lg_cmp_e, if_pos rfl, zgo]
  · have hS1 := zSc_1 hS k1
    dsimp only at e1
    obtain ⟨s'', m1, m2, h3, m3, m4, m5, m6, m7⟩ := hm h1 (zMd_1 hM k1)
    dsimp only at m3
    have hI3 := zinv_end hS c1 k1 (fun k _ _ => ⟨rfl, rfl, rfl, rfl, rfl, rfl⟩) ⟨rfl, rfl⟩ m1 m4 m5 hW'
    refine ⟨h3, s'', hI3, by omega, by omega, ?_⟩
    have e2 : nI t.toNat = zE t := by rw [zE_nI, Int.toNat_of_nonneg t0]
    have w1 : zm272 (some (12, 0)) (xs (i + 1).toNat) (xs (i + 2).toNat) (some (38, 0)) h = some (.inl (zE t), h1) := by
      simp only [zm272, ↓zo_12, e1]
      rw [zbH_x (hx t (by omega) t3), e2]
    have tz : (zE t = zE 0) = False := by rw [zE_inj (by omega) (by omega) (by omega) (by omega)]; exact eq_false tn
    show zm291_1446 k _ _ _ _ _ _ _ = _
    simp only [zm291_1446, ↓zscr_s (i := i) (j := 1) hS hL zE_1 (by omega) (by omega), ↓zscr_s (i := i) (j := 2) hS hL zE_2 (by omega) (by omega), w1, zb2_s]
    simp only [↓zscr_s (i := i) (j := 1) hS1 hL zE_1 (by omega) (by omega), ↓zscr_s (i := i) (j := 2) hS1 hL zE_2 (by omega) (by omega), ↓zo_13, m3, zb_s, zthr m4, m2, zE_0, tz, if_true, if_false, zgo]
theorem zcase_36 (hp : ∀ x1 : Int32, zPrZ (fun h => zm106 (some (12, 0)) x1 h) (fun h => zm219 (some (13, 0)) x1 h) (fun t => 0) 1) : zCase fun k => zm291_1566 k := by
  intro L xs h s i k hL hI h0 h1
  obtain ⟨hC, hM, hW, hS⟩ := hI
  obtain ⟨t, v, w, s', t0, t3, hW', hv01, hw01, hc, hwv, hm⟩ := hp (xs (i + 1).toNat) h s hC hM hW
  have hx : ∀ t : Int, 1 ≤ t → t ≤ 1 → zhnd [(0, 10, 0, 1)] 4 ((fun t => 0) t) = some t.toNat := by
    intro t a b
    obtain rfl : t = 1 := by omega
    rfl
  rcases hc with ⟨rfl, h1, e1, c1, k1, r1, r2⟩ | ⟨tn, h1, e1, c1, k1, r1, r2⟩
  · have hS1 := zSc_1 hS k1
    dsimp only at e1
    have hS2 : zSc L xs (zsl h1 38 0 0 (if v = 0 then (0 : Int64) else 1)) := hS1
    have hk2 : ∀ k, k ≠ 38 → k ≠ 39 → zct (zsl h1 38 0 0 (if v = 0 then (0 : Int64) else 1)) k = zct h1 k ∧ zln (zsl h1 38 0 0 (if v = 0 then (0 : Int64) else 1)) k = zln h1 k ∧ zi (zsl h1 38 0 0 (if v = 0 then (0 : Int64) else 1)) k = zi h1 k ∧ zr (zsl h1 38 0 0 (if v = 0 then (0 : Int64) else 1)) k = zr h1 k ∧ zd (zsl h1 38 0 0 (if v = 0 then (0 : Int64) else 1)) k = zd h1 k ∧ zl (zsl h1 38 0 0 (if v = 0 then (0 : Int64) else 1)) k = zl h1 k := fun k a _ => ⟨rfl, rfl, rfl, rfl, rfl, zu_k a⟩
    obtain ⟨s'', m1, m2, h3, m3, m4, m5, m6, m7⟩ := hm (zsl h1 38 0 0 (if v = 0 then (0 : Int64) else 1)) (show zMd h1 s from zMd_1 hM k1)
    dsimp only at m3
    have hI3 := zinv_end hS c1 k1 hk2 ⟨rfl, rfl⟩ m1 m4 m5 hW'
    have hl3 : zl h3 38 0 0 = (if v = 0 then (0 : Int64) else 1) := by
      rw [(m5 38 (by unfold zpm1; omega)).2.2.2.2.2]
      exact zl_sl
    refine ⟨h3, s'', hI3, by have a1 : zce (zsl h1 38 0 0 (if v = 0 then (0 : Int64) else 1)) = zce h1 := rfl; have a2 : zso (zsl h1 38 0 0 (if v = 0 then (0 : Int64) else 1)) = zso h1 := rfl; omega, by have a1 : zce (zsl h1 38 0 0 (if v = 0 then (0 : Int64) else 1)) = zce h1 := rfl; have a2 : zso (zsl h1 38 0 0 (if v = 0 then (0 : Int64) else 1)) = zso h1 := rfl; omega, ?_⟩
    have w1 : zm274 (some (12, 0)) (xs (i + 1).toNat) (some (38, 0)) h = some (.inl 0, (zsl h1 38 0 0 (if v = 0 then (0 : Int64) else 1))) := by
      rcases hv01 with rfl | rfl
      · simp only [zm274, zm274_9, ↓zo_12, e1, zbH_s, zE_0, if_true]
        rw [← zE_0, zout_s hS1]
        rfl
      · have z1 : ¬ zE 1 = zE 0 := by decide
        simp only [zm274, zm274_9, ↓zo_12, e1, zbH_s, zE_0, z1, if_false]
        rw [← zE_0, zout_s hS1]
        rfl
    show zm291_1566 k _ _ _ _ _ _ _ = _
    have hwv := hwv rfl
    subst hwv
    simp only [zm291_1566, ↓zscr_s (i := i) (j := 1) hS hL zE_1 (by omega) (by omega), w1, zb2_s]
    simp only [↓zscr_s (i := i) (j := 1) hS2 hL zE_1 (by omega) (by omega), ↓zo_13, m3, zb_s, zthr m4, m2, zE_0, if_true]
    rw [← zE_0, zoutr_s hI3.2.2.2, hl3]
    rcases hw01 with rfl | rfl
    · simp only [zm291_1599, zE_0, if_true, lg_cmp_e]
      exact zgo
    · have z1 : ¬ zE 1 = zE 0 := by decide
      have z2 : ¬ (1 : Int) = 0 := by decide
      simp only [zm291_1599, zE_0, z1, z2, if_false, if_true, lg_cmp_e]
      exact zgo
  · have hS1 := zSc_1 hS k1
    dsimp only at e1
    obtain ⟨s'', m1, m2, h3, m3, m4, m5, m6, m7⟩ := hm h1 (zMd_1 hM k1)
    dsimp only at m3
    have hI3 := zinv_end hS c1 k1 (fun k _ _ => ⟨rfl, rfl, rfl, rfl, rfl, rfl⟩) ⟨rfl, rfl⟩ m1 m4 m5 hW'
    refine ⟨h3, s'', hI3, by omega, by omega, ?_⟩
    have e2 : nI t.toNat = zE t := by rw [zE_nI, Int.toNat_of_nonneg t0]
    have w1 : zm274 (some (12, 0)) (xs (i + 1).toNat) (some (38, 0)) h = some (.inl (zE t), h1) := by
      simp only [zm274, ↓zo_12, e1]
      rw [zbH_x (hx t (by omega) t3), e2]
    have tz : (zE t = zE 0) = False := by rw [zE_inj (by omega) (by omega) (by omega) (by omega)]; exact eq_false tn
    show zm291_1566 k _ _ _ _ _ _ _ = _
    simp only [zm291_1566, ↓zscr_s (i := i) (j := 1) hS hL zE_1 (by omega) (by omega), w1, zb2_s]
    simp only [↓zscr_s (i := i) (j := 1) hS1 hL zE_1 (by omega) (by omega), ↓zo_13, m3, zb_s, zthr m4, m2, zE_0, tz, if_true, if_false, zgo]
theorem zcase_37 (hp : ∀ x1 x2 x3 x4 : Int32, zPrI (fun h => zm107 (some (12, 0)) x1 x2 x3 x4 h) (fun h => zm220 (some (13, 0)) x1 x2 x3 x4 h) (fun t => if t = 1 then 0 else 1) 2) : zCase fun k => zm291_1604 k := by
  intro L xs h s i k hL hI h0 h1
  obtain ⟨hC, hM, hW, hS⟩ := hI
  obtain ⟨t, v, w, s', t0, t3, hW', hc, hwv, hm⟩ := hp (xs (i + 1).toNat) (xs (i + 2).toNat) (xs (i + 3).toNat) (xs (i + 4).toNat) h s hC hM hW
  have hx : ∀ t : Int, 1 ≤ t → t ≤ 2 → zhnd [(0, 10, 0, 1), (0, 10, 1, 2)] 7 ((fun t => if t = 1 then 0 else 1) t) = some t.toNat := by
    intro t a b
    rcases (show t = 1 ∨ t = 2 by omega) with rfl | rfl <;> rfl
  rcases hc with ⟨rfl, h1, e1, c1, k1, r1, r2⟩ | ⟨tn, h1, e1, c1, k1, r1, r2⟩
  · have hS1 := zSc_1 hS k1
    dsimp only at e1
    have hS2 : zSc L xs (zsl h1 38 0 0 (zE v).toInt64) := hS1
    have hk2 : ∀ k, k ≠ 38 → k ≠ 39 → zct (zsl h1 38 0 0 (zE v).toInt64) k = zct h1 k ∧ zln (zsl h1 38 0 0 (zE v).toInt64) k = zln h1 k ∧ zi (zsl h1 38 0 0 (zE v).toInt64) k = zi h1 k ∧ zr (zsl h1 38 0 0 (zE v).toInt64) k = zr h1 k ∧ zd (zsl h1 38 0 0 (zE v).toInt64) k = zd h1 k ∧ zl (zsl h1 38 0 0 (zE v).toInt64) k = zl h1 k := fun k a _ => ⟨rfl, rfl, rfl, rfl, rfl, zu_k a⟩
    obtain ⟨s'', m1, m2, h3, m3, m4, m5, m6, m7⟩ := hm (zsl h1 38 0 0 (zE v).toInt64) (show zMd h1 s from zMd_1 hM k1)
    dsimp only at m3
    have hI3 := zinv_end hS c1 k1 hk2 ⟨rfl, rfl⟩ m1 m4 m5 hW'
    have hl3 : zl h3 38 0 0 = (zE v).toInt64 := by
      rw [(m5 38 (by unfold zpm1; omega)).2.2.2.2.2]
      exact zl_sl
    refine ⟨h3, s'', hI3, by have a1 : zce (zsl h1 38 0 0 (zE v).toInt64) = zce h1 := rfl; have a2 : zso (zsl h1 38 0 0 (zE v).toInt64) = zso h1 := rfl; omega, by have a1 : zce (zsl h1 38 0 0 (zE v).toInt64) = zce h1 := rfl; have a2 : zso (zsl h1 38 0 0 (zE v).toInt64) = zso h1 := rfl; omega, ?_⟩
    have w1 : zm275 (some (12, 0)) (xs (i + 1).toNat) (xs (i + 2).toNat) (xs (i + 3).toNat) (xs (i + 4).toNat) (some (38, 0)) h = some (.inl 0, (zsl h1 38 0 0 (zE v).toInt64)) := by
      simp only [zm275, ↓zo_12, e1, zbH_s, ↓zout_s hS1, ↓zlet_s]
    show zm291_1604 k _ _ _ _ _ _ _ = _
    simp only [zm291_1604, ↓zscr_s (i := i) (j := 1) hS hL zE_1 (by omega) (by omega), ↓zscr_s (i := i) (j := 2) hS hL zE_2 (by omega) (by omega), ↓zscr_s (i := i) (j := 3) hS hL zE_3 (by omega) (by omega), ↓zscr_s (i := i) (j := 4) hS hL zE_4 (by omega) (by omega), w1, zb2_s]
    simp only [↓zscr_s (i := i) (j := 1) hS2 hL zE_1 (by omega) (by omega), ↓zscr_s (i := i) (j := 2) hS2 hL zE_2 (by omega) (by omega), ↓zscr_s (i := i) (j := 3) hS2 hL zE_3 (by omega) (by omega), ↓zscr_s (i := i) (j := 4) hS2 hL zE_4 (by omega) (by omega), ↓zo_13, m3, zb_s, zthr m4, m2, zE_0, if_true]
    rw [← zE_0, zoutr_s hI3.2.2.2, hl3, hwv rfl, lg_cmp_e, if_pos rfl, zgo]
  · have hS1 := zSc_1 hS k1
    dsimp only at e1
    obtain ⟨s'', m1, m2, h3, m3, m4, m5, m6, m7⟩ := hm h1 (zMd_1 hM k1)
    dsimp only at m3
    have hI3 := zinv_end hS c1 k1 (fun k _ _ => ⟨rfl, rfl, rfl, rfl, rfl, rfl⟩) ⟨rfl, rfl⟩ m1 m4 m5 hW'
    refine ⟨h3, s'', hI3, by omega, by omega, ?_⟩
    have e2 : nI t.toNat = zE t := by rw [zE_nI, Int.toNat_of_nonneg t0]
    have w1 : zm275 (some (12, 0)) (xs (i + 1).toNat) (xs (i + 2).toNat) (xs (i + 3).toNat) (xs (i + 4).toNat) (some (38, 0)) h = some (.inl (zE t), h1) := by
      simp only [zm275, ↓zo_12, e1]
      rw [zbH_x (hx t (by omega) t3), e2]
    have tz : (zE t = zE 0) = False := by rw [zE_inj (by omega) (by omega) (by omega) (by omega)]; exact eq_false tn
    show zm291_1604 k _ _ _ _ _ _ _ = _
    simp only [zm291_1604, ↓zscr_s (i := i) (j := 1) hS hL zE_1 (by omega) (by omega), ↓zscr_s (i := i) (j := 2) hS hL zE_2 (by omega) (by omega), ↓zscr_s (i := i) (j := 3) hS hL zE_3 (by omega) (by omega), ↓zscr_s (i := i) (j := 4) hS hL zE_4 (by omega) (by omega), w1, zb2_s]
    simp only [↓zscr_s (i := i) (j := 1) hS1 hL zE_1 (by omega) (by omega), ↓zscr_s (i := i) (j := 2) hS1 hL zE_2 (by omega) (by omega), ↓zscr_s (i := i) (j := 3) hS1 hL zE_3 (by omega) (by omega), ↓zscr_s (i := i) (j := 4) hS1 hL zE_4 (by omega) (by omega), ↓zo_13, m3, zb_s, zthr m4, m2, zE_0, tz, if_true, if_false, zgo]
theorem zcase_38 (hp : ∀ x1 x2 : Int32, zPrI (fun h => zm108 (some (12, 0)) x1 x2 h) (fun h => zm221 (some (13, 0)) x1 x2 h) (fun t => if t = 1 then 2 else if t = 2 then 0 else 1) 3) : zCase fun k => zm291_1669 k := by
  intro L xs h s i k hL hI h0 h1
  obtain ⟨hC, hM, hW, hS⟩ := hI
  obtain ⟨t, v, w, s', t0, t3, hW', hc, hwv, hm⟩ := hp (xs (i + 1).toNat) (xs (i + 2).toNat) h s hC hM hW
  have hx : ∀ t : Int, 1 ≤ t → t ≤ 3 → zhnd [(0, 8, 2, 1), (0, 8, 0, 2), (0, 8, 1, 3)] 5 ((fun t => if t = 1 then 2 else if t = 2 then 0 else 1) t) = some t.toNat := by
    intro t a b
    rcases (show t = 1 ∨ t = 2 ∨ t = 3 by omega) with rfl | rfl | rfl <;> rfl
  rcases hc with ⟨rfl, h1, e1, c1, k1, r1, r2⟩ | ⟨tn, h1, e1, c1, k1, r1, r2⟩
  · have hS1 := zSc_1 hS k1
    dsimp only at e1
    have hS2 : zSc L xs (zsl h1 38 0 0 (zE v).toInt64) := hS1
    have hk2 : ∀ k, k ≠ 38 → k ≠ 39 → zct (zsl h1 38 0 0 (zE v).toInt64) k = zct h1 k ∧ zln (zsl h1 38 0 0 (zE v).toInt64) k = zln h1 k ∧ zi (zsl h1 38 0 0 (zE v).toInt64) k = zi h1 k ∧ zr (zsl h1 38 0 0 (zE v).toInt64) k = zr h1 k ∧ zd (zsl h1 38 0 0 (zE v).toInt64) k = zd h1 k ∧ zl (zsl h1 38 0 0 (zE v).toInt64) k = zl h1 k := fun k a _ => ⟨rfl, rfl, rfl, rfl, rfl, zu_k a⟩
    obtain ⟨s'', m1, m2, h3, m3, m4, m5, m6, m7⟩ := hm (zsl h1 38 0 0 (zE v).toInt64) (show zMd h1 s from zMd_1 hM k1)
    dsimp only at m3
    have hI3 := zinv_end hS c1 k1 hk2 ⟨rfl, rfl⟩ m1 m4 m5 hW'
    have hl3 : zl h3 38 0 0 = (zE v).toInt64 := by
      rw [(m5 38 (by unfold zpm1; omega)).2.2.2.2.2]
      exact zl_sl
    refine ⟨h3, s'', hI3, by have a1 : zce (zsl h1 38 0 0 (zE v).toInt64) = zce h1 := rfl; have a2 : zso (zsl h1 38 0 0 (zE v).toInt64) = zso h1 := rfl; omega, by have a1 : zce (zsl h1 38 0 0 (zE v).toInt64) = zce h1 := rfl; have a2 : zso (zsl h1 38 0 0 (zE v).toInt64) = zso h1 := rfl; omega, ?_⟩
    have w1 : zm276 (some (12, 0)) (xs (i + 1).toNat) (xs (i + 2).toNat) (some (38, 0)) h = some (.inl 0, (zsl h1 38 0 0 (zE v).toInt64)) := by
      simp only [zm276, ↓zo_12, e1, zbH_s, ↓zout_s hS1, ↓zlet_s]
    show zm291_1669 k _ _ _ _ _ _ _ = _
    simp only [zm291_1669, ↓zscr_s (i := i) (j := 1) hS hL zE_1 (by omega) (by omega), ↓zscr_s (i := i) (j := 2) hS hL zE_2 (by omega) (by omega), w1, zb2_s]
    simp only [↓zscr_s (i := i) (j := 1) hS2 hL zE_1 (by omega) (by omega), ↓zscr_s (i := i) (j := 2) hS2 hL zE_2 (by omega) (by omega), ↓zo_13, m3, zb_s, zthr m4, m2, zE_0, if_true]
    rw [← zE_0, zoutr_s hI3.2.2.2, hl3, hwv rfl, lg_cmp_e, if_pos rfl, zgo]
  · have hS1 := zSc_1 hS k1
    dsimp only at e1
    obtain ⟨s'', m1, m2, h3, m3, m4, m5, m6, m7⟩ := hm h1 (zMd_1 hM k1)
    dsimp only at m3
    have hI3 := zinv_end hS c1 k1 (fun k _ _ => ⟨rfl, rfl, rfl, rfl, rfl, rfl⟩) ⟨rfl, rfl⟩ m1 m4 m5 hW'
    refine ⟨h3, s'', hI3, by omega, by omega, ?_⟩
    have e2 : nI t.toNat = zE t := by rw [zE_nI, Int.toNat_of_nonneg t0]
    have w1 : zm276 (some (12, 0)) (xs (i + 1).toNat) (xs (i + 2).toNat) (some (38, 0)) h = some (.inl (zE t), h1) := by
      simp only [zm276, ↓zo_12, e1]
      rw [zbH_x (hx t (by omega) t3), e2]
    have tz : (zE t = zE 0) = False := by rw [zE_inj (by omega) (by omega) (by omega) (by omega)]; exact eq_false tn
    show zm291_1669 k _ _ _ _ _ _ _ = _
    simp only [zm291_1669, ↓zscr_s (i := i) (j := 1) hS hL zE_1 (by omega) (by omega), ↓zscr_s (i := i) (j := 2) hS hL zE_2 (by omega) (by omega), w1, zb2_s]
    simp only [↓zscr_s (i := i) (j := 1) hS1 hL zE_1 (by omega) (by omega), ↓zscr_s (i := i) (j := 2) hS1 hL zE_2 (by omega) (by omega), ↓zo_13, m3, zb_s, zthr m4, m2, zE_0, tz, if_true, if_false, zgo]
theorem zcase_39 (hp : ∀ x1 x2 : Int32, zPrZ (fun h => zm109 (some (12, 0)) x1 x2 h) (fun h => zm222 (some (13, 0)) x1 x2 h) (fun t => 0) 1) : zCase fun k => zm291_1714 k := by
  intro L xs h s i k hL hI h0 h1
  obtain ⟨hC, hM, hW, hS⟩ := hI
  obtain ⟨t, v, w, s', t0, t3, hW', hv01, hw01, hc, hwv, hm⟩ := hp (xs (i + 1).toNat) (xs (i + 2).toNat) h s hC hM hW
  have hx : ∀ t : Int, 1 ≤ t → t ≤ 1 → zhnd [(0, 11, 0, 1)] 5 ((fun t => 0) t) = some t.toNat := by
    intro t a b
    obtain rfl : t = 1 := by omega
    rfl
  rcases hc with ⟨rfl, h1, e1, c1, k1, r1, r2⟩ | ⟨tn, h1, e1, c1, k1, r1, r2⟩
  · have hS1 := zSc_1 hS k1
    dsimp only at e1
    have hS2 : zSc L xs (zsl h1 38 0 0 (if v = 0 then (0 : Int64) else 1)) := hS1
    have hk2 : ∀ k, k ≠ 38 → k ≠ 39 → zct (zsl h1 38 0 0 (if v = 0 then (0 : Int64) else 1)) k = zct h1 k ∧ zln (zsl h1 38 0 0 (if v = 0 then (0 : Int64) else 1)) k = zln h1 k ∧ zi (zsl h1 38 0 0 (if v = 0 then (0 : Int64) else 1)) k = zi h1 k ∧ zr (zsl h1 38 0 0 (if v = 0 then (0 : Int64) else 1)) k = zr h1 k ∧ zd (zsl h1 38 0 0 (if v = 0 then (0 : Int64) else 1)) k = zd h1 k ∧ zl (zsl h1 38 0 0 (if v = 0 then (0 : Int64) else 1)) k = zl h1 k := fun k a _ => ⟨rfl, rfl, rfl, rfl, rfl, zu_k a⟩
    obtain ⟨s'', m1, m2, h3, m3, m4, m5, m6, m7⟩ := hm (zsl h1 38 0 0 (if v = 0 then (0 : Int64) else 1)) (show zMd h1 s from zMd_1 hM k1)
    dsimp only at m3
    have hI3 := zinv_end hS c1 k1 hk2 ⟨rfl, rfl⟩ m1 m4 m5 hW'
    have hl3 : zl h3 38 0 0 = (if v = 0 then (0 : Int64) else 1) := by
      rw [(m5 38 (by unfold zpm1; omega)).2.2.2.2.2]
      exact zl_sl
    refine ⟨h3, s'', hI3, by have a1 : zce (zsl h1 38 0 0 (if v = 0 then (0 : Int64) else 1)) = zce h1 := rfl; have a2 : zso (zsl h1 38 0 0 (if v = 0 then (0 : Int64) else 1)) = zso h1 := rfl; omega, by have a1 : zce (zsl h1 38 0 0 (if v = 0 then (0 : Int64) else 1)) = zce h1 := rfl; have a2 : zso (zsl h1 38 0 0 (if v = 0 then (0 : Int64) else 1)) = zso h1 := rfl; omega, ?_⟩
    have w1 : zm277 (some (12, 0)) (xs (i + 1).toNat) (xs (i + 2).toNat) (some (38, 0)) h = some (.inl 0, (zsl h1 38 0 0 (if v = 0 then (0 : Int64) else 1))) := by
      rcases hv01 with rfl | rfl
      · simp only [zm277, zm277_10, ↓zo_12, e1, zbH_s, zE_0, if_true]
        rw [← zE_0, zout_s hS1]
        rfl
      · have z1 : ¬ zE 1 = zE 0 := by decide
        simp only [zm277, zm277_10, ↓zo_12, e1, zbH_s, zE_0, z1, if_false]
        rw [← zE_0, zout_s hS1]
        rfl
    show zm291_1714 k _ _ _ _ _ _ _ = _
    have hwv := hwv rfl
    subst hwv
    simp only [zm291_1714, ↓zscr_s (i := i) (j := 1) hS hL zE_1 (by omega) (by omega), ↓zscr_s (i := i) (j := 2) hS hL zE_2 (by omega) (by omega), w1, zb2_s]
    simp only [↓zscr_s (i := i) (j := 1) hS2 hL zE_1 (by omega) (by omega), ↓zscr_s (i := i) (j := 2) hS2 hL zE_2 (by omega) (by omega), ↓zo_13, m3, zb_s, zthr m4, m2, zE_0, if_true]
    rw [← zE_0, zoutr_s hI3.2.2.2, hl3]
    rcases hw01 with rfl | rfl
    · simp only [zm291_1757, zE_0, if_true, lg_cmp_e]
      exact zgo
    · have z1 : ¬ zE 1 = zE 0 := by decide
      have z2 : ¬ (1 : Int) = 0 := by decide
      simp only [zm291_1757, zE_0, z1, z2, if_false, if_true, lg_cmp_e]
      exact zgo
  · have hS1 := zSc_1 hS k1
    dsimp only at e1
    obtain ⟨s'', m1, m2, h3, m3, m4, m5, m6, m7⟩ := hm h1 (zMd_1 hM k1)
    dsimp only at m3
    have hI3 := zinv_end hS c1 k1 (fun k _ _ => ⟨rfl, rfl, rfl, rfl, rfl, rfl⟩) ⟨rfl, rfl⟩ m1 m4 m5 hW'
    refine ⟨h3, s'', hI3, by omega, by omega, ?_⟩
    have e2 : nI t.toNat = zE t := by rw [zE_nI, Int.toNat_of_nonneg t0]
    have w1 : zm277 (some (12, 0)) (xs (i + 1).toNat) (xs (i + 2).toNat) (some (38, 0)) h = some (.inl (zE t), h1) := by
      simp only [zm277, ↓zo_12, e1]
      rw [zbH_x (hx t (by omega) t3), e2]
    have tz : (zE t = zE 0) = False := by rw [zE_inj (by omega) (by omega) (by omega) (by omega)]; exact eq_false tn
    show zm291_1714 k _ _ _ _ _ _ _ = _
    simp only [zm291_1714, ↓zscr_s (i := i) (j := 1) hS hL zE_1 (by omega) (by omega), ↓zscr_s (i := i) (j := 2) hS hL zE_2 (by omega) (by omega), w1, zb2_s]
    simp only [↓zscr_s (i := i) (j := 1) hS1 hL zE_1 (by omega) (by omega), ↓zscr_s (i := i) (j := 2) hS1 hL zE_2 (by omega) (by omega), ↓zo_13, m3, zb_s, zthr m4, m2, zE_0, tz, if_true, if_false, zgo]
theorem zcase_40 (hp : ∀ x1 x2 : Int32, zPrI (fun h => zm110 (some (12, 0)) x1 x2 h) (fun h => zm223 (some (13, 0)) x1 x2 h) (fun t => 0) 1) : zCase fun k => zm291_1762 k := by
  intro L xs h s i k hL hI h0 h1
  obtain ⟨hC, hM, hW, hS⟩ := hI
  obtain ⟨t, v, w, s', t0, t3, hW', hc, hwv, hm⟩ := hp (xs (i + 1).toNat) (xs (i + 2).toNat) h s hC hM hW
  have hx : ∀ t : Int, 1 ≤ t → t ≤ 1 → zhnd [(0, 8, 0, 1)] 5 ((fun t => 0) t) = some t.toNat := by
    intro t a b
    obtain rfl : t = 1 := by omega
    rfl
  rcases hc with ⟨rfl, h1, e1, c1, k1, r1, r2⟩ | ⟨tn, h1, e1, c1, k1, r1, r2⟩
  · have hS1 := zSc_1 hS k1
    dsimp only at e1
    have hS2 : zSc L xs (zsl h1 38 0 0 (zE v).toInt64) := hS1
    have hk2 : ∀ k, k ≠ 38 → k ≠ 39 → zct (zsl h1 38 0 0 (zE v).toInt64) k = zct h1 k ∧ zln (zsl h1 38 0 0 (zE v).toInt64) k = zln h1 k ∧ zi (zsl h1 38 0 0 (zE v).toInt64) k = zi h1 k ∧ zr (zsl h1 38 0 0 (zE v).toInt64) k = zr h1 k ∧ zd (zsl h1 38 0 0 (zE v).toInt64) k = zd h1 k ∧ zl (zsl h1 38 0 0 (zE v).toInt64) k = zl h1 k := fun k a _ => ⟨rfl, rfl, rfl, rfl, rfl, zu_k a⟩
    obtain ⟨s'', m1, m2, h3, m3, m4, m5, m6, m7⟩ := hm (zsl h1 38 0 0 (zE v).toInt64) (show zMd h1 s from zMd_1 hM k1)
    dsimp only at m3
    have hI3 := zinv_end hS c1 k1 hk2 ⟨rfl, rfl⟩ m1 m4 m5 hW'
    have hl3 : zl h3 38 0 0 = (zE v).toInt64 := by
      rw [(m5 38 (by unfold zpm1; omega)).2.2.2.2.2]
      exact zl_sl
    refine ⟨h3, s'', hI3, by have a1 : zce (zsl h1 38 0 0 (zE v).toInt64) = zce h1 := rfl; have a2 : zso (zsl h1 38 0 0 (zE v).toInt64) = zso h1 := rfl; omega, by have a1 : zce (zsl h1 38 0 0 (zE v).toInt64) = zce h1 := rfl; have a2 : zso (zsl h1 38 0 0 (zE v).toInt64) = zso h1 := rfl; omega, ?_⟩
    have w1 : zm278 (some (12, 0)) (xs (i + 1).toNat) (xs (i + 2).toNat) (some (38, 0)) h = some (.inl 0, (zsl h1 38 0 0 (zE v).toInt64)) := by
      simp only [zm278, ↓zo_12, e1, zbH_s, ↓zout_s hS1, ↓zlet_s]
    show zm291_1762 k _ _ _ _ _ _ _ = _
    simp only [zm291_1762, ↓zscr_s (i := i) (j := 1) hS hL zE_1 (by omega) (by omega), ↓zscr_s (i := i) (j := 2) hS hL zE_2 (by omega) (by omega), w1, zb2_s]
    simp only [↓zscr_s (i := i) (j := 1) hS2 hL zE_1 (by omega) (by omega), ↓zscr_s (i := i) (j := 2) hS2 hL zE_2 (by omega) (by omega), ↓zo_13, m3, zb_s, zthr m4, m2, zE_0, if_true]
    rw [← zE_0, zoutr_s hI3.2.2.2, hl3, hwv rfl, lg_cmp_e, if_pos rfl, zgo]
  · have hS1 := zSc_1 hS k1
    dsimp only at e1
    obtain ⟨s'', m1, m2, h3, m3, m4, m5, m6, m7⟩ := hm h1 (zMd_1 hM k1)
    dsimp only at m3
    have hI3 := zinv_end hS c1 k1 (fun k _ _ => ⟨rfl, rfl, rfl, rfl, rfl, rfl⟩) ⟨rfl, rfl⟩ m1 m4 m5 hW'
    refine ⟨h3, s'', hI3, by omega, by omega, ?_⟩
    have e2 : nI t.toNat = zE t := by rw [zE_nI, Int.toNat_of_nonneg t0]
    have w1 : zm278 (some (12, 0)) (xs (i + 1).toNat) (xs (i + 2).toNat) (some (38, 0)) h = some (.inl (zE t), h1) := by
      simp only [zm278, ↓zo_12, e1]
      rw [zbH_x (hx t (by omega) t3), e2]
    have tz : (zE t = zE 0) = False := by rw [zE_inj (by omega) (by omega) (by omega) (by omega)]; exact eq_false tn
    show zm291_1762 k _ _ _ _ _ _ _ = _
    simp only [zm291_1762, ↓zscr_s (i := i) (j := 1) hS hL zE_1 (by omega) (by omega), ↓zscr_s (i := i) (j := 2) hS hL zE_2 (by omega) (by omega), w1, zb2_s]
    simp only [↓zscr_s (i := i) (j := 1) hS1 hL zE_1 (by omega) (by omega), ↓zscr_s (i := i) (j := 2) hS1 hL zE_2 (by omega) (by omega), ↓zo_13, m3, zb_s, zthr m4, m2, zE_0, tz, if_true, if_false, zgo]
theorem zcase_41 (hp : ∀ x1 : Int32, zPrI (fun h => zm111 (some (12, 0)) x1 h) (fun h => zm224 (some (13, 0)) x1 h) (fun t => 0) 1) : zCase fun k => zm291_1807 k := by
  intro L xs h s i k hL hI h0 h1
  obtain ⟨hC, hM, hW, hS⟩ := hI
  obtain ⟨t, v, w, s', t0, t3, hW', hc, hwv, hm⟩ := hp (xs (i + 1).toNat) h s hC hM hW
  have hx : ∀ t : Int, 1 ≤ t → t ≤ 1 → zhnd [(0, 7, 0, 1)] 4 ((fun t => 0) t) = some t.toNat := by
    intro t a b
    obtain rfl : t = 1 := by omega
    rfl
  rcases hc with ⟨rfl, h1, e1, c1, k1, r1, r2⟩ | ⟨tn, h1, e1, c1, k1, r1, r2⟩
  · have hS1 := zSc_1 hS k1
    dsimp only at e1
    have hS2 : zSc L xs (zsl h1 38 0 0 (zE v).toInt64) := hS1
    have hk2 : ∀ k, k ≠ 38 → k ≠ 39 → zct (zsl h1 38 0 0 (zE v).toInt64) k = zct h1 k ∧ zln (zsl h1 38 0 0 (zE v).toInt64) k = zln h1 k ∧ zi (zsl h1 38 0 0 (zE v).toInt64) k = zi h1 k ∧ zr (zsl h1 38 0 0 (zE v).toInt64) k = zr h1 k ∧ zd (zsl h1 38 0 0 (zE v).toInt64) k = zd h1 k ∧ zl (zsl h1 38 0 0 (zE v).toInt64) k = zl h1 k := fun k a _ => ⟨rfl, rfl, rfl, rfl, rfl, zu_k a⟩
    obtain ⟨s'', m1, m2, h3, m3, m4, m5, m6, m7⟩ := hm (zsl h1 38 0 0 (zE v).toInt64) (show zMd h1 s from zMd_1 hM k1)
    dsimp only at m3
    have hI3 := zinv_end hS c1 k1 hk2 ⟨rfl, rfl⟩ m1 m4 m5 hW'
    have hl3 : zl h3 38 0 0 = (zE v).toInt64 := by
      rw [(m5 38 (by unfold zpm1; omega)).2.2.2.2.2]
      exact zl_sl
    refine ⟨h3, s'', hI3, by have a1 : zce (zsl h1 38 0 0 (zE v).toInt64) = zce h1 := rfl; have a2 : zso (zsl h1 38 0 0 (zE v).toInt64) = zso h1 := rfl; omega, by have a1 : zce (zsl h1 38 0 0 (zE v).toInt64) = zce h1 := rfl; have a2 : zso (zsl h1 38 0 0 (zE v).toInt64) = zso h1 := rfl; omega, ?_⟩
    have w1 : zm279 (some (12, 0)) (xs (i + 1).toNat) (some (38, 0)) h = some (.inl 0, (zsl h1 38 0 0 (zE v).toInt64)) := by
      simp only [zm279, ↓zo_12, e1, zbH_s, ↓zout_s hS1, ↓zlet_s]
    show zm291_1807 k _ _ _ _ _ _ _ = _
    simp only [zm291_1807, ↓zscr_s (i := i) (j := 1) hS hL zE_1 (by omega) (by omega), w1, zb2_s]
    simp only [↓zscr_s (i := i) (j := 1) hS2 hL zE_1 (by omega) (by omega), ↓zo_13, m3, zb_s, zthr m4, m2, zE_0, if_true]
    rw [← zE_0, zoutr_s hI3.2.2.2, hl3, hwv rfl, lg_cmp_e, if_pos rfl, zgo]
  · have hS1 := zSc_1 hS k1
    dsimp only at e1
    obtain ⟨s'', m1, m2, h3, m3, m4, m5, m6, m7⟩ := hm h1 (zMd_1 hM k1)
    dsimp only at m3
    have hI3 := zinv_end hS c1 k1 (fun k _ _ => ⟨rfl, rfl, rfl, rfl, rfl, rfl⟩) ⟨rfl, rfl⟩ m1 m4 m5 hW'
    refine ⟨h3, s'', hI3, by omega, by omega, ?_⟩
    have e2 : nI t.toNat = zE t := by rw [zE_nI, Int.toNat_of_nonneg t0]
    have w1 : zm279 (some (12, 0)) (xs (i + 1).toNat) (some (38, 0)) h = some (.inl (zE t), h1) := by
      simp only [zm279, ↓zo_12, e1]
      rw [zbH_x (hx t (by omega) t3), e2]
    have tz : (zE t = zE 0) = False := by rw [zE_inj (by omega) (by omega) (by omega) (by omega)]; exact eq_false tn
    show zm291_1807 k _ _ _ _ _ _ _ = _
    simp only [zm291_1807, ↓zscr_s (i := i) (j := 1) hS hL zE_1 (by omega) (by omega), w1, zb2_s]
    simp only [↓zscr_s (i := i) (j := 1) hS1 hL zE_1 (by omega) (by omega), ↓zo_13, m3, zb_s, zthr m4, m2, zE_0, tz, if_true, if_false, zgo]
theorem zcase_42 (hp : ∀ x1 : Int32, zPrI (fun h => zm112 (some (12, 0)) x1 h) (fun h => zm225 (some (13, 0)) x1 h) (fun t => if t = 1 then 0 else 1) 2) : zCase fun k => zm291_1842 k := by
  intro L xs h s i k hL hI h0 h1
  obtain ⟨hC, hM, hW, hS⟩ := hI
  obtain ⟨t, v, w, s', t0, t3, hW', hc, hwv, hm⟩ := hp (xs (i + 1).toNat) h s hC hM hW
  have hx : ∀ t : Int, 1 ≤ t → t ≤ 2 → zhnd [(0, 7, 0, 1), (0, 7, 1, 2)] 4 ((fun t => if t = 1 then 0 else 1) t) = some t.toNat := by
    intro t a b
    rcases (show t = 1 ∨ t = 2 by omega) with rfl | rfl <;> rfl
  rcases hc with ⟨rfl, h1, e1, c1, k1, r1, r2⟩ | ⟨tn, h1, e1, c1, k1, r1, r2⟩
  · have hS1 := zSc_1 hS k1
    dsimp only at e1
    have hS2 : zSc L xs (zsl h1 38 0 0 (zE v).toInt64) := hS1
    have hk2 : ∀ k, k ≠ 38 → k ≠ 39 → zct (zsl h1 38 0 0 (zE v).toInt64) k = zct h1 k ∧ zln (zsl h1 38 0 0 (zE v).toInt64) k = zln h1 k ∧ zi (zsl h1 38 0 0 (zE v).toInt64) k = zi h1 k ∧ zr (zsl h1 38 0 0 (zE v).toInt64) k = zr h1 k ∧ zd (zsl h1 38 0 0 (zE v).toInt64) k = zd h1 k ∧ zl (zsl h1 38 0 0 (zE v).toInt64) k = zl h1 k := fun k a _ => ⟨rfl, rfl, rfl, rfl, rfl, zu_k a⟩
    obtain ⟨s'', m1, m2, h3, m3, m4, m5, m6, m7⟩ := hm (zsl h1 38 0 0 (zE v).toInt64) (show zMd h1 s from zMd_1 hM k1)
    dsimp only at m3
    have hI3 := zinv_end hS c1 k1 hk2 ⟨rfl, rfl⟩ m1 m4 m5 hW'
    have hl3 : zl h3 38 0 0 = (zE v).toInt64 := by
      rw [(m5 38 (by unfold zpm1; omega)).2.2.2.2.2]
      exact zl_sl
    refine ⟨h3, s'', hI3, by have a1 : zce (zsl h1 38 0 0 (zE v).toInt64) = zce h1 := rfl; have a2 : zso (zsl h1 38 0 0 (zE v).toInt64) = zso h1 := rfl; omega, by have a1 : zce (zsl h1 38 0 0 (zE v).toInt64) = zce h1 := rfl; have a2 : zso (zsl h1 38 0 0 (zE v).toInt64) = zso h1 := rfl; omega, ?_⟩
    have w1 : zm280 (some (12, 0)) (xs (i + 1).toNat) (some (38, 0)) h = some (.inl 0, (zsl h1 38 0 0 (zE v).toInt64)) := by
      simp only [zm280, ↓zo_12, e1, zbH_s, ↓zout_s hS1, ↓zlet_s]
    show zm291_1842 k _ _ _ _ _ _ _ = _
    simp only [zm291_1842, ↓zscr_s (i := i) (j := 1) hS hL zE_1 (by omega) (by omega), w1, zb2_s]
    simp only [↓zscr_s (i := i) (j := 1) hS2 hL zE_1 (by omega) (by omega), ↓zo_13, m3, zb_s, zthr m4, m2, zE_0, if_true]
    rw [← zE_0, zoutr_s hI3.2.2.2, hl3, hwv rfl, lg_cmp_e, if_pos rfl, zgo]
  · have hS1 := zSc_1 hS k1
    dsimp only at e1
    obtain ⟨s'', m1, m2, h3, m3, m4, m5, m6, m7⟩ := hm h1 (zMd_1 hM k1)
    dsimp only at m3
    have hI3 := zinv_end hS c1 k1 (fun k _ _ => ⟨rfl, rfl, rfl, rfl, rfl, rfl⟩) ⟨rfl, rfl⟩ m1 m4 m5 hW'
    refine ⟨h3, s'', hI3, by omega, by omega, ?_⟩
    have e2 : nI t.toNat = zE t := by rw [zE_nI, Int.toNat_of_nonneg t0]
    have w1 : zm280 (some (12, 0)) (xs (i + 1).toNat) (some (38, 0)) h = some (.inl (zE t), h1) := by
      simp only [zm280, ↓zo_12, e1]
      rw [zbH_x (hx t (by omega) t3), e2]
    have tz : (zE t = zE 0) = False := by rw [zE_inj (by omega) (by omega) (by omega) (by omega)]; exact eq_false tn
    show zm291_1842 k _ _ _ _ _ _ _ = _
    simp only [zm291_1842, ↓zscr_s (i := i) (j := 1) hS hL zE_1 (by omega) (by omega), w1, zb2_s]
    simp only [↓zscr_s (i := i) (j := 1) hS1 hL zE_1 (by omega) (by omega), ↓zo_13, m3, zb_s, zthr m4, m2, zE_0, tz, if_true, if_false, zgo]
theorem zcase_43 (hp : ∀ x1 x2 : Int32, zPrI (fun h => zm113 (some (12, 0)) x1 x2 h) (fun h => zm227 (some (13, 0)) x1 x2 h) (fun t => if t = 1 then 2 else 1) 2) : zCase fun k => zm291_1877 k := by
  intro L xs h s i k hL hI h0 h1
  obtain ⟨hC, hM, hW, hS⟩ := hI
  obtain ⟨t, v, w, s', t0, t3, hW', hc, hwv, hm⟩ := hp (xs (i + 1).toNat) (xs (i + 2).toNat) h s hC hM hW
  have hx : ∀ t : Int, 1 ≤ t → t ≤ 2 → zhnd [(0, 8, 2, 1), (0, 8, 1, 2)] 5 ((fun t => if t = 1 then 2 else 1) t) = some t.toNat := by
    intro t a b
    rcases (show t = 1 ∨ t = 2 by omega) with rfl | rfl <;> rfl
  rcases hc with ⟨rfl, h1, e1, c1, k1, r1, r2⟩ | ⟨tn, h1, e1, c1, k1, r1, r2⟩
  · have hS1 := zSc_1 hS k1
    dsimp only at e1
    have hS2 : zSc L xs (zsl h1 38 0 0 (zE v).toInt64) := hS1
    have hk2 : ∀ k, k ≠ 38 → k ≠ 39 → zct (zsl h1 38 0 0 (zE v).toInt64) k = zct h1 k ∧ zln (zsl h1 38 0 0 (zE v).toInt64) k = zln h1 k ∧ zi (zsl h1 38 0 0 (zE v).toInt64) k = zi h1 k ∧ zr (zsl h1 38 0 0 (zE v).toInt64) k = zr h1 k ∧ zd (zsl h1 38 0 0 (zE v).toInt64) k = zd h1 k ∧ zl (zsl h1 38 0 0 (zE v).toInt64) k = zl h1 k := fun k a _ => ⟨rfl, rfl, rfl, rfl, rfl, zu_k a⟩
    obtain ⟨s'', m1, m2, h3, m3, m4, m5, m6, m7⟩ := hm (zsl h1 38 0 0 (zE v).toInt64) (show zMd h1 s from zMd_1 hM k1)
    dsimp only at m3
    have hI3 := zinv_end hS c1 k1 hk2 ⟨rfl, rfl⟩ m1 m4 m5 hW'
    have hl3 : zl h3 38 0 0 = (zE v).toInt64 := by
      rw [(m5 38 (by unfold zpm1; omega)).2.2.2.2.2]
      exact zl_sl
    refine ⟨h3, s'', hI3, by have a1 : zce (zsl h1 38 0 0 (zE v).toInt64) = zce h1 := rfl; have a2 : zso (zsl h1 38 0 0 (zE v).toInt64) = zso h1 := rfl; omega, by have a1 : zce (zsl h1 38 0 0 (zE v).toInt64) = zce h1 := rfl; have a2 : zso (zsl h1 38 0 0 (zE v).toInt64) = zso h1 := rfl; omega, ?_⟩
    have w1 : zm281 (some (12, 0)) (xs (i + 1).toNat) (xs (i + 2).toNat) (some (38, 0)) h = some (.inl 0, (zsl h1 38 0 0 (zE v).toInt64)) := by
      simp only [zm281, ↓zo_12, e1, zbH_s, ↓zout_s hS1, ↓zlet_s]
    show zm291_1877 k _ _ _ _ _ _ _ = _
    simp only [zm291_1877, ↓zscr_s (i := i) (j := 1) hS hL zE_1 (by omega) (by omega), ↓zscr_s (i := i) (j := 2) hS hL zE_2 (by omega) (by omega), w1, zb2_s]
    simp only [↓zscr_s (i := i) (j := 1) hS2 hL zE_1 (by omega) (by omega), ↓zscr_s (i := i) (j := 2) hS2 hL zE_2 (by omega) (by omega), ↓zo_13, m3, zb_s, zthr m4, m2, zE_0, if_true]
    rw [← zE_0, zoutr_s hI3.2.2.2, hl3, hwv rfl, lg_cmp_e, if_pos rfl, zgo]
  · have hS1 := zSc_1 hS k1
    dsimp only at e1
    obtain ⟨s'', m1, m2, h3, m3, m4, m5, m6, m7⟩ := hm h1 (zMd_1 hM k1)
    dsimp only at m3
    have hI3 := zinv_end hS c1 k1 (fun k _ _ => ⟨rfl, rfl, rfl, rfl, rfl, rfl⟩) ⟨rfl, rfl⟩ m1 m4 m5 hW'
    refine ⟨h3, s'', hI3, by omega, by omega, ?_⟩
    have e2 : nI t.toNat = zE t := by rw [zE_nI, Int.toNat_of_nonneg t0]
    have w1 : zm281 (some (12, 0)) (xs (i + 1).toNat) (xs (i + 2).toNat) (some (38, 0)) h = some (.inl (zE t), h1) := by
      simp only [zm281, ↓zo_12, e1]
      rw [zbH_x (hx t (by omega) t3), e2]
    have tz : (zE t = zE 0) = False := by rw [zE_inj (by omega) (by omega) (by omega) (by omega)]; exact eq_false tn
    show zm291_1877 k _ _ _ _ _ _ _ = _
    simp only [zm291_1877, ↓zscr_s (i := i) (j := 1) hS hL zE_1 (by omega) (by omega), ↓zscr_s (i := i) (j := 2) hS hL zE_2 (by omega) (by omega), w1, zb2_s]
    simp only [↓zscr_s (i := i) (j := 1) hS1 hL zE_1 (by omega) (by omega), ↓zscr_s (i := i) (j := 2) hS1 hL zE_2 (by omega) (by omega), ↓zo_13, m3, zb_s, zthr m4, m2, zE_0, tz, if_true, if_false, zgo]
theorem zcase_44 (hp : ∀ x1 : Int32, zPrI (fun h => zm114 (some (12, 0)) x1 h) (fun h => zm228 (some (13, 0)) x1 h) (fun t => 2) 1) : zCase fun k => zm291_1922 k := by
  intro L xs h s i k hL hI h0 h1
  obtain ⟨hC, hM, hW, hS⟩ := hI
  obtain ⟨t, v, w, s', t0, t3, hW', hc, hwv, hm⟩ := hp (xs (i + 1).toNat) h s hC hM hW
  have hx : ∀ t : Int, 1 ≤ t → t ≤ 1 → zhnd [(0, 7, 2, 1)] 4 ((fun t => 2) t) = some t.toNat := by
    intro t a b
    obtain rfl : t = 1 := by omega
    rfl
  rcases hc with ⟨rfl, h1, e1, c1, k1, r1, r2⟩ | ⟨tn, h1, e1, c1, k1, r1, r2⟩
  · have hS1 := zSc_1 hS k1
    dsimp only at e1
    have hS2 : zSc L xs (zsl h1 38 0 0 (zE v).toInt64) := hS1
    have hk2 : ∀ k, k ≠ 38 → k ≠ 39 → zct (zsl h1 38 0 0 (zE v).toInt64) k = zct h1 k ∧ zln (zsl h1 38 0 0 (zE v).toInt64) k = zln h1 k ∧ zi (zsl h1 38 0 0 (zE v).toInt64) k = zi h1 k ∧ zr (zsl h1 38 0 0 (zE v).toInt64) k = zr h1 k ∧ zd (zsl h1 38 0 0 (zE v).toInt64) k = zd h1 k ∧ zl (zsl h1 38 0 0 (zE v).toInt64) k = zl h1 k := fun k a _ => ⟨rfl, rfl, rfl, rfl, rfl, zu_k a⟩
    obtain ⟨s'', m1, m2, h3, m3, m4, m5, m6, m7⟩ := hm (zsl h1 38 0 0 (zE v).toInt64) (show zMd h1 s from zMd_1 hM k1)
    dsimp only at m3
    have hI3 := zinv_end hS c1 k1 hk2 ⟨rfl, rfl⟩ m1 m4 m5 hW'
    have hl3 : zl h3 38 0 0 = (zE v).toInt64 := by
      rw [(m5 38 (by unfold zpm1; omega)).2.2.2.2.2]
      exact zl_sl
    refine ⟨h3, s'', hI3, by have a1 : zce (zsl h1 38 0 0 (zE v).toInt64) = zce h1 := rfl; have a2 : zso (zsl h1 38 0 0 (zE v).toInt64) = zso h1 := rfl; omega, by have a1 : zce (zsl h1 38 0 0 (zE v).toInt64) = zce h1 := rfl; have a2 : zso (zsl h1 38 0 0 (zE v).toInt64) = zso h1 := rfl; omega, ?_⟩
    have w1 : zm282 (some (12, 0)) (xs (i + 1).toNat) (some (38, 0)) h = some (.inl 0, (zsl h1 38 0 0 (zE v).toInt64)) := by
      simp only [zm282, ↓zo_12, e1, zbH_s, ↓zout_s hS1, ↓zlet_s]
    show zm291_1922 k _ _ _ _ _ _ _ = _
    simp only [zm291_1922, ↓zscr_s (i := i) (j := 1) hS hL zE_1 (by omega) (by omega), w1, zb2_s]
    simp only [↓zscr_s (i := i) (j := 1) hS2 hL zE_1 (by omega) (by omega), ↓zo_13, m3, zb_s, zthr m4, m2, zE_0, if_true]
    rw [← zE_0, zoutr_s hI3.2.2.2, hl3, hwv rfl, lg_cmp_e, if_pos rfl, zgo]
  · have hS1 := zSc_1 hS k1
    dsimp only at e1
    obtain ⟨s'', m1, m2, h3, m3, m4, m5, m6, m7⟩ := hm h1 (zMd_1 hM k1)
    dsimp only at m3
    have hI3 := zinv_end hS c1 k1 (fun k _ _ => ⟨rfl, rfl, rfl, rfl, rfl, rfl⟩) ⟨rfl, rfl⟩ m1 m4 m5 hW'
    refine ⟨h3, s'', hI3, by omega, by omega, ?_⟩
    have e2 : nI t.toNat = zE t := by rw [zE_nI, Int.toNat_of_nonneg t0]
    have w1 : zm282 (some (12, 0)) (xs (i + 1).toNat) (some (38, 0)) h = some (.inl (zE t), h1) := by
      simp only [zm282, ↓zo_12, e1]
      rw [zbH_x (hx t (by omega) t3), e2]
    have tz : (zE t = zE 0) = False := by rw [zE_inj (by omega) (by omega) (by omega) (by omega)]; exact eq_false tn
    show zm291_1922 k _ _ _ _ _ _ _ = _
    simp only [zm291_1922, ↓zscr_s (i := i) (j := 1) hS hL zE_1 (by omega) (by omega), w1, zb2_s]
    simp only [↓zscr_s (i := i) (j := 1) hS1 hL zE_1 (by omega) (by omega), ↓zo_13, m3, zb_s, zthr m4, m2, zE_0, tz, if_true, if_false, zgo]
theorem zcase_45 (hp : ∀ x1 x2 x3 : Int32, zPrV (fun h => zm115 (some (12, 0)) x1 x2 x3 h) (fun h => zm230 (some (13, 0)) x1 x2 x3 h) (fun t => if t = 1 then 0 else 1) 2) : zCase fun k => zm291_1957 k := by
  intro L xs h s i k hL hI h0 h1
  obtain ⟨hC, hM, hW, hS⟩ := hI
  obtain ⟨t, s', t0, t3, hW', hc, hm⟩ := hp (xs (i + 1).toNat) (xs (i + 2).toNat) (xs (i + 3).toNat) h s hC hM hW
  have hx : ∀ t : Int, 1 ≤ t → t ≤ 2 → zhnd [(0, 5, 0, 1), (0, 5, 1, 2)] 4 ((fun t => if t = 1 then 0 else 1) t) = some t.toNat := by
    intro t a b
    rcases (show t = 1 ∨ t = 2 by omega) with rfl | rfl <;> rfl
  rcases hc with ⟨rfl, h1, e1, c1, k1, r1, r2⟩ | ⟨tn, h1, e1, c1, k1, r1, r2⟩
  · have hS1 := zSc_1 hS k1
    dsimp only at e1
    have hS2 : zSc L xs h1 := hS1
    obtain ⟨s'', m1, m2, h3, m3, m4, m5, m6, m7⟩ := hm h1 (zMd_1 hM k1)
    dsimp only at m3
    have hI3 := zinv_end hS c1 k1 (fun k _ _ => ⟨rfl, rfl, rfl, rfl, rfl, rfl⟩) ⟨rfl, rfl⟩ m1 m4 m5 hW'
    refine ⟨h3, s'', hI3, by omega, by omega, ?_⟩
    have w1 : zm283 (some (12, 0)) (xs (i + 1).toNat) (xs (i + 2).toNat) (xs (i + 3).toNat) h = some (.inl 0, h1) := by
      simp only [zm283, ↓zo_12, e1, zbH_s]
    show zm291_1957 k _ _ _ _ _ _ _ = _
    simp only [zm291_1957, ↓zscr_s (i := i) (j := 1) hS hL zE_1 (by omega) (by omega), ↓zscr_s (i := i) (j := 2) hS hL zE_2 (by omega) (by omega), ↓zscr_s (i := i) (j := 3) hS hL zE_3 (by omega) (by omega), w1, zb2_s]
    simp only [↓zscr_s (i := i) (j := 1) hS2 hL zE_1 (by omega) (by omega), ↓zscr_s (i := i) (j := 2) hS2 hL zE_2 (by omega) (by omega), ↓zscr_s (i := i) (j := 3) hS2 hL zE_3 (by omega) (by omega), ↓zo_13, m3, zb_s, zthr m4, m2, zE_0, if_true]
    exact zgo
  · have hS1 := zSc_1 hS k1
    dsimp only at e1
    obtain ⟨s'', m1, m2, h3, m3, m4, m5, m6, m7⟩ := hm h1 (zMd_1 hM k1)
    dsimp only at m3
    have hI3 := zinv_end hS c1 k1 (fun k _ _ => ⟨rfl, rfl, rfl, rfl, rfl, rfl⟩) ⟨rfl, rfl⟩ m1 m4 m5 hW'
    refine ⟨h3, s'', hI3, by omega, by omega, ?_⟩
    have e2 : nI t.toNat = zE t := by rw [zE_nI, Int.toNat_of_nonneg t0]
    have w1 : zm283 (some (12, 0)) (xs (i + 1).toNat) (xs (i + 2).toNat) (xs (i + 3).toNat) h = some (.inl (zE t), h1) := by
      simp only [zm283, ↓zo_12, e1]
      rw [zbH_x (hx t (by omega) t3), e2]
    have tz : (zE t = zE 0) = False := by rw [zE_inj (by omega) (by omega) (by omega) (by omega)]; exact eq_false tn
    show zm291_1957 k _ _ _ _ _ _ _ = _
    simp only [zm291_1957, ↓zscr_s (i := i) (j := 1) hS hL zE_1 (by omega) (by omega), ↓zscr_s (i := i) (j := 2) hS hL zE_2 (by omega) (by omega), ↓zscr_s (i := i) (j := 3) hS hL zE_3 (by omega) (by omega), w1, zb2_s]
    simp only [↓zscr_s (i := i) (j := 1) hS1 hL zE_1 (by omega) (by omega), ↓zscr_s (i := i) (j := 2) hS1 hL zE_2 (by omega) (by omega), ↓zscr_s (i := i) (j := 3) hS1 hL zE_3 (by omega) (by omega), ↓zo_13, m3, zb_s, zthr m4, m2, zE_0, tz, if_true, if_false, zgo]
theorem zcase_47 (hp : ∀ x1 : Int32, zPrZ (fun h => zm118 (some (12, 0)) x1 h) (fun h => zm232 (some (13, 0)) x1 h) (fun t => 0) 1) : zCase fun k => zm291_2082 k := by
  intro L xs h s i k hL hI h0 h1
  obtain ⟨hC, hM, hW, hS⟩ := hI
  obtain ⟨t, v, w, s', t0, t3, hW', hv01, hw01, hc, hwv, hm⟩ := hp (xs (i + 1).toNat) h s hC hM hW
  have hx : ∀ t : Int, 1 ≤ t → t ≤ 1 → zhnd [(0, 10, 0, 1)] 4 ((fun t => 0) t) = some t.toNat := by
    intro t a b
    obtain rfl : t = 1 := by omega
    rfl
  rcases hc with ⟨rfl, h1, e1, c1, k1, r1, r2⟩ | ⟨tn, h1, e1, c1, k1, r1, r2⟩
  · have hS1 := zSc_1 hS k1
    dsimp only at e1
    have hS2 : zSc L xs (zsl h1 38 0 0 (if v = 0 then (0 : Int64) else 1)) := hS1
    have hk2 : ∀ k, k ≠ 38 → k ≠ 39 → zct (zsl h1 38 0 0 (if v = 0 then (0 : Int64) else 1)) k = zct h1 k ∧ zln (zsl h1 38 0 0 (if v = 0 then (0 : Int64) else 1)) k = zln h1 k ∧ zi (zsl h1 38 0 0 (if v = 0 then (0 : Int64) else 1)) k = zi h1 k ∧ zr (zsl h1 38 0 0 (if v = 0 then (0 : Int64) else 1)) k = zr h1 k ∧ zd (zsl h1 38 0 0 (if v = 0 then (0 : Int64) else 1)) k = zd h1 k ∧ zl (zsl h1 38 0 0 (if v = 0 then (0 : Int64) else 1)) k = zl h1 k := fun k a _ => ⟨rfl, rfl, rfl, rfl, rfl, zu_k a⟩
    obtain ⟨s'', m1, m2, h3, m3, m4, m5, m6, m7⟩ := hm (zsl h1 38 0 0 (if v = 0 then (0 : Int64) else 1)) (show zMd h1 s from zMd_1 hM k1)
    dsimp only at m3
    have hI3 := zinv_end hS c1 k1 hk2 ⟨rfl, rfl⟩ m1 m4 m5 hW'
    have hl3 : zl h3 38 0 0 = (if v = 0 then (0 : Int64) else 1) := by
      rw [(m5 38 (by unfold zpm1; omega)).2.2.2.2.2]
      exact zl_sl
    refine ⟨h3, s'', hI3, by have a1 : zce (zsl h1 38 0 0 (if v = 0 then (0 : Int64) else 1)) = zce h1 := rfl; have a2 : zso (zsl h1 38 0 0 (if v = 0 then (0 : Int64) else 1)) = zso h1 := rfl; omega, by have a1 : zce (zsl h1 38 0 0 (if v = 0 then (0 : Int64) else 1)) = zce h1 := rfl; have a2 : zso (zsl h1 38 0 0 (if v = 0 then (0 : Int64) else 1)) = zso h1 := rfl; omega, ?_⟩
    have w1 : zm285 (some (12, 0)) (xs (i + 1).toNat) (some (38, 0)) h = some (.inl 0, (zsl h1 38 0 0 (if v = 0 then (0 : Int64) else 1))) := by
      rcases hv01 with rfl | rfl
      · simp only [zm285, zm285_9, ↓zo_12, e1, zbH_s, zE_0, if_true]
        rw [← zE_0, zout_s hS1]
        rfl
      · have z1 : ¬ zE 1 = zE 0 := by decide
        simp only [zm285, zm285_9, ↓zo_12, e1, zbH_s, zE_0, z1, if_false]
        rw [← zE_0, zout_s hS1]
        rfl
    show zm291_2082 k _ _ _ _ _ _ _ = _
    have hwv := hwv rfl
    subst hwv
    simp only [zm291_2082, ↓zscr_s (i := i) (j := 1) hS hL zE_1 (by omega) (by omega), w1, zb2_s]
    simp only [↓zscr_s (i := i) (j := 1) hS2 hL zE_1 (by omega) (by omega), ↓zo_13, m3, zb_s, zthr m4, m2, zE_0, if_true]
    rw [← zE_0, zoutr_s hI3.2.2.2, hl3]
    rcases hw01 with rfl | rfl
    · simp only [zm291_2115, zE_0, if_true, lg_cmp_e]
      exact zgo
    · have z1 : ¬ zE 1 = zE 0 := by decide
      have z2 : ¬ (1 : Int) = 0 := by decide
      simp only [zm291_2115, zE_0, z1, z2, if_false, if_true, lg_cmp_e]
      exact zgo
  · have hS1 := zSc_1 hS k1
    dsimp only at e1
    obtain ⟨s'', m1, m2, h3, m3, m4, m5, m6, m7⟩ := hm h1 (zMd_1 hM k1)
    dsimp only at m3
    have hI3 := zinv_end hS c1 k1 (fun k _ _ => ⟨rfl, rfl, rfl, rfl, rfl, rfl⟩) ⟨rfl, rfl⟩ m1 m4 m5 hW'
    refine ⟨h3, s'', hI3, by omega, by omega, ?_⟩
    have e2 : nI t.toNat = zE t := by rw [zE_nI, Int.toNat_of_nonneg t0]
    have w1 : zm285 (some (12, 0)) (xs (i + 1).toNat) (some (38, 0)) h = some (.inl (zE t), h1) := by
      simp only [zm285, ↓zo_12, e1]
      rw [zbH_x (hx t (by omega) t3), e2]
    have tz : (zE t = zE 0) = False := by rw [zE_inj (by omega) (by omega) (by omega) (by omega)]; exact eq_false tn
    show zm291_2082 k _ _ _ _ _ _ _ = _
    simp only [zm291_2082, ↓zscr_s (i := i) (j := 1) hS hL zE_1 (by omega) (by omega), w1, zb2_s]
    simp only [↓zscr_s (i := i) (j := 1) hS1 hL zE_1 (by omega) (by omega), ↓zo_13, m3, zb_s, zthr m4, m2, zE_0, tz, if_true, if_false, zgo]
theorem zcase_48 (hp : ∀ x1 x2 : Int32, zPrV (fun h => zm119 (some (12, 0)) x1 x2 h) (fun h => zm233 (some (13, 0)) x1 x2 h) (fun t => 0) 1) : zCase fun k => zm291_2120 k := by
  intro L xs h s i k hL hI h0 h1
  obtain ⟨hC, hM, hW, hS⟩ := hI
  obtain ⟨t, s', t0, t3, hW', hc, hm⟩ := hp (xs (i + 1).toNat) (xs (i + 2).toNat) h s hC hM hW
  have hx : ∀ t : Int, 1 ≤ t → t ≤ 1 → zhnd [(0, 4, 0, 1)] 3 ((fun t => 0) t) = some t.toNat := by
    intro t a b
    obtain rfl : t = 1 := by omega
    rfl
  rcases hc with ⟨rfl, h1, e1, c1, k1, r1, r2⟩ | ⟨tn, h1, e1, c1, k1, r1, r2⟩
  · have hS1 := zSc_1 hS k1
    dsimp only at e1
    have hS2 : zSc L xs h1 := hS1
    obtain ⟨s'', m1, m2, h3, m3, m4, m5, m6, m7⟩ := hm h1 (zMd_1 hM k1)
    dsimp only at m3
    have hI3 := zinv_end hS c1 k1 (fun k _ _ => ⟨rfl, rfl, rfl, rfl, rfl, rfl⟩) ⟨rfl, rfl⟩ m1 m4 m5 hW'
    refine ⟨h3, s'', hI3, by omega, by omega, ?_⟩
    have w1 : zm286 (some (12, 0)) (xs (i + 1).toNat) (xs (i + 2).toNat) h = some (.inl 0, h1) := by
      simp only [zm286, ↓zo_12, e1, zbH_s]
    show zm291_2120 k _ _ _ _ _ _ _ = _
    simp only [zm291_2120, ↓zscr_s (i := i) (j := 1) hS hL zE_1 (by omega) (by omega), ↓zscr_s (i := i) (j := 2) hS hL zE_2 (by omega) (by omega), w1, zb2_s]
    simp only [↓zscr_s (i := i) (j := 1) hS2 hL zE_1 (by omega) (by omega), ↓zscr_s (i := i) (j := 2) hS2 hL zE_2 (by omega) (by omega), ↓zo_13, m3, zb_s, zthr m4, m2, zE_0, if_true]
    exact zgo
  · have hS1 := zSc_1 hS k1
    dsimp only at e1
    obtain ⟨s'', m1, m2, h3, m3, m4, m5, m6, m7⟩ := hm h1 (zMd_1 hM k1)
    dsimp only at m3
    have hI3 := zinv_end hS c1 k1 (fun k _ _ => ⟨rfl, rfl, rfl, rfl, rfl, rfl⟩) ⟨rfl, rfl⟩ m1 m4 m5 hW'
    refine ⟨h3, s'', hI3, by omega, by omega, ?_⟩
    have e2 : nI t.toNat = zE t := by rw [zE_nI, Int.toNat_of_nonneg t0]
    have w1 : zm286 (some (12, 0)) (xs (i + 1).toNat) (xs (i + 2).toNat) h = some (.inl (zE t), h1) := by
      simp only [zm286, ↓zo_12, e1]
      rw [zbH_x (hx t (by omega) t3), e2]
    have tz : (zE t = zE 0) = False := by rw [zE_inj (by omega) (by omega) (by omega) (by omega)]; exact eq_false tn
    show zm291_2120 k _ _ _ _ _ _ _ = _
    simp only [zm291_2120, ↓zscr_s (i := i) (j := 1) hS hL zE_1 (by omega) (by omega), ↓zscr_s (i := i) (j := 2) hS hL zE_2 (by omega) (by omega), w1, zb2_s]
    simp only [↓zscr_s (i := i) (j := 1) hS1 hL zE_1 (by omega) (by omega), ↓zscr_s (i := i) (j := 2) hS1 hL zE_2 (by omega) (by omega), ↓zo_13, m3, zb_s, zthr m4, m2, zE_0, tz, if_true, if_false, zgo]
theorem zcase_49 (hp : ∀ x1 x2 : Int32, zPrZ (fun h => zm120 (some (12, 0)) x1 x2 h) (fun h => zm236 (some (13, 0)) x1 x2 h) (fun t => 0) 1) : zCase fun k => zm291_2152 k := by
  intro L xs h s i k hL hI h0 h1
  obtain ⟨hC, hM, hW, hS⟩ := hI
  obtain ⟨t, v, w, s', t0, t3, hW', hv01, hw01, hc, hwv, hm⟩ := hp (xs (i + 1).toNat) (xs (i + 2).toNat) h s hC hM hW
  have hx : ∀ t : Int, 1 ≤ t → t ≤ 1 → zhnd [(0, 11, 0, 1)] 5 ((fun t => 0) t) = some t.toNat := by
    intro t a b
    obtain rfl : t = 1 := by omega
    rfl
  rcases hc with ⟨rfl, h1, e1, c1, k1, r1, r2⟩ | ⟨tn, h1, e1, c1, k1, r1, r2⟩
  · have hS1 := zSc_1 hS k1
    dsimp only at e1
    have hS2 : zSc L xs (zsl h1 38 0 0 (if v = 0 then (0 : Int64) else 1)) := hS1
    have hk2 : ∀ k, k ≠ 38 → k ≠ 39 → zct (zsl h1 38 0 0 (if v = 0 then (0 : Int64) else 1)) k = zct h1 k ∧ zln (zsl h1 38 0 0 (if v = 0 then (0 : Int64) else 1)) k = zln h1 k ∧ zi (zsl h1 38 0 0 (if v = 0 then (0 : Int64) else 1)) k = zi h1 k ∧ zr (zsl h1 38 0 0 (if v = 0 then (0 : Int64) else 1)) k = zr h1 k ∧ zd (zsl h1 38 0 0 (if v = 0 then (0 : Int64) else 1)) k = zd h1 k ∧ zl (zsl h1 38 0 0 (if v = 0 then (0 : Int64) else 1)) k = zl h1 k := fun k a _ => ⟨rfl, rfl, rfl, rfl, rfl, zu_k a⟩
    obtain ⟨s'', m1, m2, h3, m3, m4, m5, m6, m7⟩ := hm (zsl h1 38 0 0 (if v = 0 then (0 : Int64) else 1)) (show zMd h1 s from zMd_1 hM k1)
    dsimp only at m3
    have hI3 := zinv_end hS c1 k1 hk2 ⟨rfl, rfl⟩ m1 m4 m5 hW'
    have hl3 : zl h3 38 0 0 = (if v = 0 then (0 : Int64) else 1) := by
      rw [(m5 38 (by unfold zpm1; omega)).2.2.2.2.2]
      exact zl_sl
    refine ⟨h3, s'', hI3, by have a1 : zce (zsl h1 38 0 0 (if v = 0 then (0 : Int64) else 1)) = zce h1 := rfl; have a2 : zso (zsl h1 38 0 0 (if v = 0 then (0 : Int64) else 1)) = zso h1 := rfl; omega, by have a1 : zce (zsl h1 38 0 0 (if v = 0 then (0 : Int64) else 1)) = zce h1 := rfl; have a2 : zso (zsl h1 38 0 0 (if v = 0 then (0 : Int64) else 1)) = zso h1 := rfl; omega, ?_⟩
    have w1 : zm287 (some (12, 0)) (xs (i + 1).toNat) (xs (i + 2).toNat) (some (38, 0)) h = some (.inl 0, (zsl h1 38 0 0 (if v = 0 then (0 : Int64) else 1))) := by
      rcases hv01 with rfl | rfl
      · simp only [zm287, zm287_10, ↓zo_12, e1, zbH_s, zE_0, if_true]
        rw [← zE_0, zout_s hS1]
        rfl
      · have z1 : ¬ zE 1 = zE 0 := by decide
        simp only [zm287, zm287_10, ↓zo_12, e1, zbH_s, zE_0, z1, if_false]
        rw [← zE_0, zout_s hS1]
        rfl
    show zm291_2152 k _ _ _ _ _ _ _ = _
    have hwv := hwv rfl
    subst hwv
    simp only [zm291_2152, ↓zscr_s (i := i) (j := 1) hS hL zE_1 (by omega) (by omega), ↓zscr_s (i := i) (j := 2) hS hL zE_2 (by omega) (by omega), w1, zb2_s]
    simp only [↓zscr_s (i := i) (j := 1) hS2 hL zE_1 (by omega) (by omega), ↓zscr_s (i := i) (j := 2) hS2 hL zE_2 (by omega) (by omega), ↓zo_13, m3, zb_s, zthr m4, m2, zE_0, if_true]
    rw [← zE_0, zoutr_s hI3.2.2.2, hl3]
    rcases hw01 with rfl | rfl
    · simp only [zm291_2195, zE_0, if_true, lg_cmp_e]
      exact zgo
    · have z1 : ¬ zE 1 = zE 0 := by decide
      have z2 : ¬ (1 : Int) = 0 := by decide
      simp only [zm291_2195, zE_0, z1, z2, if_false, if_true, lg_cmp_e]
      exact zgo
  · have hS1 := zSc_1 hS k1
    dsimp only at e1
    obtain ⟨s'', m1, m2, h3, m3, m4, m5, m6, m7⟩ := hm h1 (zMd_1 hM k1)
    dsimp only at m3
    have hI3 := zinv_end hS c1 k1 (fun k _ _ => ⟨rfl, rfl, rfl, rfl, rfl, rfl⟩) ⟨rfl, rfl⟩ m1 m4 m5 hW'
    refine ⟨h3, s'', hI3, by omega, by omega, ?_⟩
    have e2 : nI t.toNat = zE t := by rw [zE_nI, Int.toNat_of_nonneg t0]
    have w1 : zm287 (some (12, 0)) (xs (i + 1).toNat) (xs (i + 2).toNat) (some (38, 0)) h = some (.inl (zE t), h1) := by
      simp only [zm287, ↓zo_12, e1]
      rw [zbH_x (hx t (by omega) t3), e2]
    have tz : (zE t = zE 0) = False := by rw [zE_inj (by omega) (by omega) (by omega) (by omega)]; exact eq_false tn
    show zm291_2152 k _ _ _ _ _ _ _ = _
    simp only [zm291_2152, ↓zscr_s (i := i) (j := 1) hS hL zE_1 (by omega) (by omega), ↓zscr_s (i := i) (j := 2) hS hL zE_2 (by omega) (by omega), w1, zb2_s]
    simp only [↓zscr_s (i := i) (j := 1) hS1 hL zE_1 (by omega) (by omega), ↓zscr_s (i := i) (j := 2) hS1 hL zE_2 (by omega) (by omega), ↓zo_13, m3, zb_s, zthr m4, m2, zE_0, tz, if_true, if_false, zgo]
theorem zcase_51 (hp : ∀ x1 x2 x3 x4 x5 : Int32, zPrI (fun h => zm126 (some (12, 0)) x1 x2 x3 x4 x5 h) (fun h => zm238 (some (13, 0)) x1 x2 x3 x4 x5 h) (fun t => if t = 1 then 0 else 1) 2) : zCase fun k => zm291_2207 k := by
  intro L xs h s i k hL hI h0 h1
  obtain ⟨hC, hM, hW, hS⟩ := hI
  obtain ⟨t, v, w, s', t0, t3, hW', hc, hwv, hm⟩ := hp (xs (i + 1).toNat) (xs (i + 2).toNat) (xs (i + 3).toNat) (xs (i + 4).toNat) (xs (i + 5).toNat) h s hC hM hW
  have hx : ∀ t : Int, 1 ≤ t → t ≤ 2 → zhnd [(0, 11, 0, 1), (0, 11, 1, 2)] 8 ((fun t => if t = 1 then 0 else 1) t) = some t.toNat := by
    intro t a b
    rcases (show t = 1 ∨ t = 2 by omega) with rfl | rfl <;> rfl
  rcases hc with ⟨rfl, h1, e1, c1, k1, r1, r2⟩ | ⟨tn, h1, e1, c1, k1, r1, r2⟩
  · have hS1 := zSc_1 hS k1
    dsimp only at e1
    have hS2 : zSc L xs (zsl h1 38 0 0 (zE v).toInt64) := hS1
    have hk2 : ∀ k, k ≠ 38 → k ≠ 39 → zct (zsl h1 38 0 0 (zE v).toInt64) k = zct h1 k ∧ zln (zsl h1 38 0 0 (zE v).toInt64) k = zln h1 k ∧ zi (zsl h1 38 0 0 (zE v).toInt64) k = zi h1 k ∧ zr (zsl h1 38 0 0 (zE v).toInt64) k = zr h1 k ∧ zd (zsl h1 38 0 0 (zE v).toInt64) k = zd h1 k ∧ zl (zsl h1 38 0 0 (zE v).toInt64) k = zl h1 k := fun k a _ => ⟨rfl, rfl, rfl, rfl, rfl, zu_k a⟩
    obtain ⟨s'', m1, m2, h3, m3, m4, m5, m6, m7⟩ := hm (zsl h1 38 0 0 (zE v).toInt64) (show zMd h1 s from zMd_1 hM k1)
    dsimp only at m3
    have hI3 := zinv_end hS c1 k1 hk2 ⟨rfl, rfl⟩ m1 m4 m5 hW'
    have hl3 : zl h3 38 0 0 = (zE v).toInt64 := by
      rw [(m5 38 (by unfold zpm1; omega)).2.2.2.2.2]
      exact zl_sl
    refine ⟨h3, s'', hI3, by have a1 : zce (zsl h1 38 0 0 (zE v).toInt64) = zce h1 := rfl; have a2 : zso (zsl h1 38 0 0 (zE v).toInt64) = zso h1 := rfl; omega, by have a1 : zce (zsl h1 38 0 0 (zE v).toInt64) = zce h1 := rfl; have a2 : zso (zsl h1 38 0 0 (zE v).toInt64) = zso h1 := rfl; omega, ?_⟩
    have w1 : zm288 (some (12, 0)) (xs (i + 1).toNat) (xs (i + 2).toNat) (xs (i + 3).toNat) (xs (i + 4).toNat) (xs (i + 5).toNat) (some (38, 0)) h = some (.inl 0, (zsl h1 38 0 0 (zE v).toInt64)) := by
      simp only [zm288, ↓zo_12, e1, zbH_s, ↓zout_s hS1, ↓zlet_s]
    show zm291_2207 k _ _ _ _ _ _ _ = _
    simp only [zm291_2207, ↓zscr_s (i := i) (j := 1) hS hL zE_1 (by omega) (by omega), ↓zscr_s (i := i) (j := 2) hS hL zE_2 (by omega) (by omega), ↓zscr_s (i := i) (j := 3) hS hL zE_3 (by omega) (by omega), ↓zscr_s (i := i) (j := 4) hS hL zE_4 (by omega) (by omega), ↓zscr_s (i := i) (j := 5) hS hL zE_5 (by omega) (by omega), w1, zb2_s]
    simp only [↓zscr_s (i := i) (j := 1) hS2 hL zE_1 (by omega) (by omega), ↓zscr_s (i := i) (j := 2) hS2 hL zE_2 (by omega) (by omega), ↓zscr_s (i := i) (j := 3) hS2 hL zE_3 (by omega) (by omega), ↓zscr_s (i := i) (j := 4) hS2 hL zE_4 (by omega) (by omega), ↓zscr_s (i := i) (j := 5) hS2 hL zE_5 (by omega) (by omega), ↓zo_13, m3, zb_s, zthr m4, m2, zE_0, if_true]
    rw [← zE_0, zoutr_s hI3.2.2.2, hl3, hwv rfl, lg_cmp_e, if_pos rfl, zgo]
  · have hS1 := zSc_1 hS k1
    dsimp only at e1
    obtain ⟨s'', m1, m2, h3, m3, m4, m5, m6, m7⟩ := hm h1 (zMd_1 hM k1)
    dsimp only at m3
    have hI3 := zinv_end hS c1 k1 (fun k _ _ => ⟨rfl, rfl, rfl, rfl, rfl, rfl⟩) ⟨rfl, rfl⟩ m1 m4 m5 hW'
    refine ⟨h3, s'', hI3, by omega, by omega, ?_⟩
    have e2 : nI t.toNat = zE t := by rw [zE_nI, Int.toNat_of_nonneg t0]
    have w1 : zm288 (some (12, 0)) (xs (i + 1).toNat) (xs (i + 2).toNat) (xs (i + 3).toNat) (xs (i + 4).toNat) (xs (i + 5).toNat) (some (38, 0)) h = some (.inl (zE t), h1) := by
      simp only [zm288, ↓zo_12, e1]
      rw [zbH_x (hx t (by omega) t3), e2]
    have tz : (zE t = zE 0) = False := by rw [zE_inj (by omega) (by omega) (by omega) (by omega)]; exact eq_false tn
    show zm291_2207 k _ _ _ _ _ _ _ = _
    simp only [zm291_2207, ↓zscr_s (i := i) (j := 1) hS hL zE_1 (by omega) (by omega), ↓zscr_s (i := i) (j := 2) hS hL zE_2 (by omega) (by omega), ↓zscr_s (i := i) (j := 3) hS hL zE_3 (by omega) (by omega), ↓zscr_s (i := i) (j := 4) hS hL zE_4 (by omega) (by omega), ↓zscr_s (i := i) (j := 5) hS hL zE_5 (by omega) (by omega), w1, zb2_s]
    simp only [↓zscr_s (i := i) (j := 1) hS1 hL zE_1 (by omega) (by omega), ↓zscr_s (i := i) (j := 2) hS1 hL zE_2 (by omega) (by omega), ↓zscr_s (i := i) (j := 3) hS1 hL zE_3 (by omega) (by omega), ↓zscr_s (i := i) (j := 4) hS1 hL zE_4 (by omega) (by omega), ↓zscr_s (i := i) (j := 5) hS1 hL zE_5 (by omega) (by omega), ↓zo_13, m3, zb_s, zthr m4, m2, zE_0, tz, if_true, if_false, zgo]
theorem zcase_52 (hp : ∀ x1 : Int32, zPrV (fun h => zm128 (some (12, 0)) x1 h) (fun h => zm239 (some (13, 0)) x1 h) (fun t => if t = 1 then 2 else 1) 2) : zCase fun k => zm291_2282 k := by
  intro L xs h s i k hL hI h0 h1
  obtain ⟨hC, hM, hW, hS⟩ := hI
  obtain ⟨t, s', t0, t3, hW', hc, hm⟩ := hp (xs (i + 1).toNat) h s hC hM hW
  have hx : ∀ t : Int, 1 ≤ t → t ≤ 2 → zhnd [(0, 3, 2, 1), (0, 3, 1, 2)] 2 ((fun t => if t = 1 then 2 else 1) t) = some t.toNat := by
    intro t a b
    rcases (show t = 1 ∨ t = 2 by omega) with rfl | rfl <;> rfl
  rcases hc with ⟨rfl, h1, e1, c1, k1, r1, r2⟩ | ⟨tn, h1, e1, c1, k1, r1, r2⟩
  · have hS1 := zSc_1 hS k1
    dsimp only at e1
    have hS2 : zSc L xs h1 := hS1
    obtain ⟨s'', m1, m2, h3, m3, m4, m5, m6, m7⟩ := hm h1 (zMd_1 hM k1)
    dsimp only at m3
    have hI3 := zinv_end hS c1 k1 (fun k _ _ => ⟨rfl, rfl, rfl, rfl, rfl, rfl⟩) ⟨rfl, rfl⟩ m1 m4 m5 hW'
    refine ⟨h3, s'', hI3, by omega, by omega, ?_⟩
    have w1 : zm289 (some (12, 0)) (xs (i + 1).toNat) h = some (.inl 0, h1) := by
      simp only [zm289, ↓zo_12, e1, zbH_s]
    show zm291_2282 k _ _ _ _ _ _ _ = _
    simp only [zm291_2282, ↓zscr_s (i := i) (j := 1) hS hL zE_1 (by omega) (by omega), w1, zb2_s]
    simp only [↓zscr_s (i := i) (j := 1) hS2 hL zE_1 (by omega) (by omega), ↓zo_13, m3, zb_s, zthr m4, m2, zE_0, if_true]
    exact zgo
  · have hS1 := zSc_1 hS k1
    dsimp only at e1
    obtain ⟨s'', m1, m2, h3, m3, m4, m5, m6, m7⟩ := hm h1 (zMd_1 hM k1)
    dsimp only at m3
    have hI3 := zinv_end hS c1 k1 (fun k _ _ => ⟨rfl, rfl, rfl, rfl, rfl, rfl⟩) ⟨rfl, rfl⟩ m1 m4 m5 hW'
    refine ⟨h3, s'', hI3, by omega, by omega, ?_⟩
    have e2 : nI t.toNat = zE t := by rw [zE_nI, Int.toNat_of_nonneg t0]
    have w1 : zm289 (some (12, 0)) (xs (i + 1).toNat) h = some (.inl (zE t), h1) := by
      simp only [zm289, ↓zo_12, e1]
      rw [zbH_x (hx t (by omega) t3), e2]
    have tz : (zE t = zE 0) = False := by rw [zE_inj (by omega) (by omega) (by omega) (by omega)]; exact eq_false tn
    show zm291_2282 k _ _ _ _ _ _ _ = _
    simp only [zm291_2282, ↓zscr_s (i := i) (j := 1) hS hL zE_1 (by omega) (by omega), w1, zb2_s]
    simp only [↓zscr_s (i := i) (j := 1) hS1 hL zE_1 (by omega) (by omega), ↓zo_13, m3, zb_s, zthr m4, m2, zE_0, tz, if_true, if_false, zgo]
theorem zcase_53 (hp : ∀ x1 x2 : Int32, zPrI (fun h => zm129 (some (12, 0)) x1 x2 h) (fun h => zm240 (some (13, 0)) x1 x2 h) (fun t => if t = 1 then 2 else 0) 2) : zCase fun k => zm291_2304 k := by
  intro L xs h s i k hL hI h0 h1
  obtain ⟨hC, hM, hW, hS⟩ := hI
  obtain ⟨t, v, w, s', t0, t3, hW', hc, hwv, hm⟩ := hp (xs (i + 1).toNat) (xs (i + 2).toNat) h s hC hM hW
  have hx : ∀ t : Int, 1 ≤ t → t ≤ 2 → zhnd [(0, 8, 2, 1), (0, 8, 0, 2)] 5 ((fun t => if t = 1 then 2 else 0) t) = some t.toNat := by
    intro t a b
    rcases (show t = 1 ∨ t = 2 by omega) with rfl | rfl <;> rfl
  rcases hc with ⟨rfl, h1, e1, c1, k1, r1, r2⟩ | ⟨tn, h1, e1, c1, k1, r1, r2⟩
  · have hS1 := zSc_1 hS k1
    dsimp only at e1
    have hS2 : zSc L xs (zsl h1 38 0 0 (zE v).toInt64) := hS1
    have hk2 : ∀ k, k ≠ 38 → k ≠ 39 → zct (zsl h1 38 0 0 (zE v).toInt64) k = zct h1 k ∧ zln (zsl h1 38 0 0 (zE v).toInt64) k = zln h1 k ∧ zi (zsl h1 38 0 0 (zE v).toInt64) k = zi h1 k ∧ zr (zsl h1 38 0 0 (zE v).toInt64) k = zr h1 k ∧ zd (zsl h1 38 0 0 (zE v).toInt64) k = zd h1 k ∧ zl (zsl h1 38 0 0 (zE v).toInt64) k = zl h1 k := fun k a _ => ⟨rfl, rfl, rfl, rfl, rfl, zu_k a⟩
    obtain ⟨s'', m1, m2, h3, m3, m4, m5, m6, m7⟩ := hm (zsl h1 38 0 0 (zE v).toInt64) (show zMd h1 s from zMd_1 hM k1)
    dsimp only at m3
    have hI3 := zinv_end hS c1 k1 hk2 ⟨rfl, rfl⟩ m1 m4 m5 hW'
    have hl3 : zl h3 38 0 0 = (zE v).toInt64 := by
      rw [(m5 38 (by unfold zpm1; omega)).2.2.2.2.2]
      exact zl_sl
    refine ⟨h3, s'', hI3, by have a1 : zce (zsl h1 38 0 0 (zE v).toInt64) = zce h1 := rfl; have a2 : zso (zsl h1 38 0 0 (zE v).toInt64) = zso h1 := rfl; omega, by have a1 : zce (zsl h1 38 0 0 (zE v).toInt64) = zce h1 := rfl; have a2 : zso (zsl h1 38 0 0 (zE v).toInt64) = zso h1 := rfl; omega, ?_⟩
    have w1 : zm290 (some (12, 0)) (xs (i + 1).toNat) (xs (i + 2).toNat) (some (38, 0)) h = some (.inl 0, (zsl h1 38 0 0 (zE v).toInt64)) := by
      simp only [zm290, ↓zo_12, e1, zbH_s, ↓zout_s hS1, ↓zlet_s]
    show zm291_2304 k _ _ _ _ _ _ _ = _
    simp only [zm291_2304, ↓zscr_s (i := i) (j := 1) hS hL zE_1 (by omega) (by omega), ↓zscr_s (i := i) (j := 2) hS hL zE_2 (by omega) (by omega), w1, zb2_s]
    simp only [↓zscr_s (i := i) (j := 1) hS2 hL zE_1 (by omega) (by omega), ↓zscr_s (i := i) (j := 2) hS2 hL zE_2 (by omega) (by omega), ↓zo_13, m3, zb_s, zthr m4, m2, zE_0, if_true]
    rw [← zE_0, zoutr_s hI3.2.2.2, hl3, hwv rfl, lg_cmp_e, if_pos rfl, zgo]
  · have hS1 := zSc_1 hS k1
    dsimp only at e1
    obtain ⟨s'', m1, m2, h3, m3, m4, m5, m6, m7⟩ := hm h1 (zMd_1 hM k1)
    dsimp only at m3
    have hI3 := zinv_end hS c1 k1 (fun k _ _ => ⟨rfl, rfl, rfl, rfl, rfl, rfl⟩) ⟨rfl, rfl⟩ m1 m4 m5 hW'
    refine ⟨h3, s'', hI3, by omega, by omega, ?_⟩
    have e2 : nI t.toNat = zE t := by rw [zE_nI, Int.toNat_of_nonneg t0]
    have w1 : zm290 (some (12, 0)) (xs (i + 1).toNat) (xs (i + 2).toNat) (some (38, 0)) h = some (.inl (zE t), h1) := by
      simp only [zm290, ↓zo_12, e1]
      rw [zbH_x (hx t (by omega) t3), e2]
    have tz : (zE t = zE 0) = False := by rw [zE_inj (by omega) (by omega) (by omega) (by omega)]; exact eq_false tn
    show zm291_2304 k _ _ _ _ _ _ _ = _
    simp only [zm291_2304, ↓zscr_s (i := i) (j := 1) hS hL zE_1 (by omega) (by omega), ↓zscr_s (i := i) (j := 2) hS hL zE_2 (by omega) (by omega), w1, zb2_s]
    simp only [↓zscr_s (i := i) (j := 1) hS1 hL zE_1 (by omega) (by omega), ↓zscr_s (i := i) (j := 2) hS1 hL zE_2 (by omega) (by omega), ↓zo_13, m3, zb_s, zthr m4, m2, zE_0, tz, if_true, if_false, zgo]
