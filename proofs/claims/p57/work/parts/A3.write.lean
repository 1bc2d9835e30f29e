set_option maxRecDepth 16384
/-! What the class's writing methods do, called as the law calls them. -/
def zDo {τ : Type} (h : zH) (s' : zS) (r : zRs τ) (v : τ) : Prop := zWf s' ∧ zCct h s' r (.inl v)
theorem zk_hold {h : zH} {s : zS} {a : Int} (hC : zCl h s) (hW : zWf s) (c : 0 ≤ a ∧ a ≤ 3) : zDo h (zup s 50 a (1 - s 50 a)) (zm106 (some (12, 0)) (zE a) h) (zE (1 - s 50 a)) := by
  have cr := hC.1
  have cV := hC.2.2.2.2.2.2.2.2.1
  obtain ⟨wA, wK, wC, wD, wP, wR, wZ, wT, wG, wE, wM, wX⟩ := hW
  have w50 := (wD.2.2 a (by omega) (by omega)).2.2.2.2
  obtain ⟨v, hv, hv1⟩ : ∃ v, v = 1 - s 50 a ∧ (v = 0 ∨ v = 1) := ⟨_, rfl, by omega⟩
  rw [← hv]
  have hv0 := zE_01 hv1
  have hW' : zWf (zup s 50 a v) := by
    refine ⟨wA, wK, wC, ⟨wD.1, wD.2.1, fun u u0 u1 => ?_⟩, wP, wR, wZ, wT, wG, wE, wM, wX⟩
    obtain ⟨q1, q2, q3, q4, q5⟩ := wD.2.2 u u0 u1
    refine ⟨q1, q2, q3, q4, ?_⟩
    by_cases e : u = a
    · subst e; rw [zup_s]; omega
    · rw [zup_a e]; exact q5
  have hC' := zw_9_7 (x := v) hC c.1 (by omega)
  refine ⟨hW', zsi h 9 a.toNat 7 (zE v), ?_, hC', zKp_i (fun z => z (by unfold zpc1; decide)), by show zce h ≤ _; omega, by show zso h ≤ _; omega⟩
  have e7 : zi (zsi h 9 a.toNat 7 (zE v)) 9 a.toNat 7 = zE v := zi_s
  by_cases e : s 50 a = 0
  · have : v = 1 := by omega
    subst this
    simp (discharger := omega) only [zm106, zE_0, zE_1, zE_2, zE_3, zE_4, zE_5, zE_6, zE_7, zE_8, zE_9, zE_10, zE_11, zE_12, zE_13, zE_14, zE_neg, zc131, if_pos c, ↓zb_s, ↓zo_12, ↓zo_9, ↓zLVa cr cV, zCv7 cV, zE_inj, e, if_true]
    simp only [zm106_16, ↓zo_9, ↓zlet_s, e7]
    rw [zif_s hv0, zif_s hv0]
  · have : v = 0 := by omega
    subst this
    simp (discharger := omega) only [zm106, zE_0, zE_1, zE_2, zE_3, zE_4, zE_5, zE_6, zE_7, zE_8, zE_9, zE_10, zE_11, zE_12, zE_13, zE_14, zE_neg, zc131, if_pos c, ↓zb_s, ↓zo_12, ↓zo_9, ↓zLVa cr cV, zCv7 cV, zE_inj, e, if_false]
    simp only [zm106_16, ↓zo_9, ↓zlet_s, e7]
    rw [zif_s hv0, zif_s hv0]
theorem zk_zone {h : zH} {s : zS} {a b : Int} (hC : zCl h s) (hW : zWf s) (c1 : 0 ≤ a ∧ a ≤ 2) (c2 : 0 ≤ b ∧ b ≤ 2) : zDo h (zup s 56 (3 * a + b) (1 - s 56 (3 * a + b))) (zm109 (some (12, 0)) (zE a) (zE b) h) (zE (1 - s 56 (3 * a + b))) := by
  have cr := hC.1
  have hX := hC.2.2.2.2.2.2.2.2.2.2.2.1
  obtain ⟨wA, wK, wC, wD, wP, wR, wZ, wT, wG, wE, wM, wX⟩ := hW
  obtain ⟨y1, y2⟩ := hX.2.1 a (by omega) (by omega)
  have w0 := wZ.2.2.1 (3 * a) (by omega) (by omega)
  have w1 := wZ.2.2.1 (3 * a + 1) (by omega) (by omega)
  have w2 := wZ.2.2.1 (3 * a + 2) (by omega) (by omega)
  obtain ⟨w, e1, e2, e3, e4⟩ := zxo w0 w1 w2 c2
  have wb := wZ.2.2.1 (3 * a + b) (by omega) (by omega)
  obtain ⟨v, hv, hv1⟩ : ∃ v, v = 1 - s 56 (3 * a + b) ∧ (v = 0 ∨ v = 1) := ⟨_, rfl, by omega⟩
  rw [← hv]
  have hv0 := zE_01 hv1
  have ev : (if b = 0 then 1 - s 56 (3 * a) else if b = 1 then 1 - s 56 (3 * a + 1) else 1 - s 56 (3 * a + 2)) = v := by
    obtain rfl | rfl | rfl : b = 0 ∨ b = 1 ∨ b = 2 := by omega
    · rw [if_pos rfl, hv, Int.add_zero]
    · rw [if_neg (by decide), if_pos rfl, hv]
    · rw [if_neg (by decide), if_neg (by decide), hv]
  rw [ev] at e4
  have ew : w = zfw (zup s 56 (3 * a + b) v) a := by
    rw [e3]
    unfold zfw
    obtain rfl | rfl | rfl : b = 0 ∨ b = 1 ∨ b = 2 := by omega
    · rw [Int.add_zero, zup_s, zup_a (show 3 * a + 1 ≠ 3 * a by omega), zup_a (show 3 * a + 2 ≠ 3 * a by omega), if_pos rfl, if_neg (by decide), if_neg (by decide), hv, Int.add_zero]
    · rw [zup_s, zup_a (show 3 * a ≠ 3 * a + 1 by omega), zup_a (show 3 * a + 2 ≠ 3 * a + 1 by omega), if_neg (by decide), if_pos rfl, if_neg (by decide), hv]
    · rw [zup_s, zup_a (show 3 * a ≠ 3 * a + 2 by omega), zup_a (show 3 * a + 1 ≠ 3 * a + 2 by omega), if_neg (by decide), if_neg (by decide), if_pos rfl, hv]
  have hC' := zw_35 (v := v) hC (by omega) (by omega) c2 ew
  have hW' : zWf (zup s 56 (3 * a + b) v) := by
    refine ⟨wA, wK, wC, wD, wP, wR, ⟨wZ.1, wZ.2.1, fun u u0 u1 => ?_, wZ.2.2.2⟩, wT, wG, wE, wM, wX⟩
    by_cases e : u = 3 * a + b
    · subst e; rw [zup_s]; omega
    · rw [zup_a e]; exact wZ.2.2.1 u u0 u1
  refine ⟨hW', zsi h 35 0 a.toNat (zE w), ?_, hC', zKp_i (fun z => z (by unfold zpc1; decide)), by show zce h ≤ _; omega, by show zso h ≤ _; omega⟩
  have f2 : ∀ f : Int32 → zRs Int32, zri (zr h 12 0 8) (zE a) h f = f (zE (s 56 (3 * a) + (2 * s 56 (3 * a + 1) + 4 * s 56 (3 * a + 2)))) := fun f => zri_s (zCr8 cr) rfl hX.1.1 (by omega) (by omega) (by omega) y1
  have f3 : ∀ g : Nat → Nat → Nat → zRs Int32, zar 1 (zr h 12 0 8) (zE a) h g = g 35 0 a.toNat := fun g => zar_s (zCr8 cr) rfl hX.1.1 (by omega) (by omega) (by omega)
  have f4 : ∀ f : Int32 → zRs Int32, zri (zr (zsi h 35 0 a.toNat (zE w)) 12 0 8) (zE a) (zsi h 35 0 a.toNat (zE w)) f = f (zE w) := fun f => zri_s (zCr8 cr) rfl hX.1.1 (by omega) (by omega) (by omega) zi_s
  obtain ⟨g, g1, g2⟩ := zc133 (h := zsi h 35 0 a.toNat (zE w)) (x := w) (k := b) (by omega) (by omega) (by omega) (by omega)
  have hz : zbo v (v = 1) := by
    rcases hv1 with z | z
    · rw [z]; exact zbo_0 (by decide)
    · rw [z]; exact zbo_1 rfl
  have gv : g = v := (g1.cg e4).u hz
  subst gv
  simp (discharger := omega) only [zm109, zE_0, zE_1, zE_2, zE_3, zE_4, zE_5, zE_6, zE_7, zE_8, zE_9, zE_10, zE_11, zE_12, zE_13, zE_14, zE_neg, zc131, if_pos c1, if_pos c2, ↓zb_s, ↓zo_12, f2, f3, e1, ↓zlet_s, f4, g2]
  rw [← zE_0, ← zE_1]
  exact zif_s hv0
theorem zk_surge {h : zH} {s : zS} {a b : Int} (hC : zCl h s) (hW : zWf s) (c : (0 ≤ a ∧ a ≤ 2) ∧ 0 ≤ b ∧ b ≤ 8) : zDo h (zup s 57 a b) (zm110 (some (12, 0)) (zE a) (zE b) h) (zE (s 57 a)) := by
  have cr := hC.1
  have hX := hC.2.2.2.2.2.2.2.2.2.2.2.1
  obtain ⟨wA, wK, wC, wD, wP, wR, wZ, wT, wG, wE, wM, wX⟩ := hW
  obtain ⟨y1, y2⟩ := hX.2.1 a (by omega) (by omega)
  refine ⟨⟨wA, wK, wC, wD, wP, wR, ⟨wZ.1, wZ.2.1, wZ.2.2.1, fun u u0 u1 => ?_⟩, wT, wG, wE, wM, wX⟩, zsi h 36 0 a.toNat (zE b), ?_, zw_36 hC (by omega) (by omega), zKp_i (fun z => z (by unfold zpc1; decide)), by show zce h ≤ _; omega, by show zso h ≤ _; omega⟩
  · have := wZ.2.2.2 u u0 u1
    by_cases e : u = a
    · subst e; rw [zup_s]; exact c.2
    · rw [zup_a e]; exact this
  · have e2 : ∀ f : Int32 → zRs Int32, zri (zr h 12 0 9) (zE a) h f = f (zE (s 57 a)) := fun f => zri_s (zCr9 cr) rfl hX.1.2.1 (by omega) (by omega) (by omega) y2
    have e3 : ∀ g : Nat → Nat → Nat → zRs Int32, zar 1 (zr h 12 0 9) (zE a) h g = g 36 0 a.toNat := fun g => zar_s (zCr9 cr) rfl hX.1.2.1 (by omega) (by omega) (by omega)
    simp (discharger := omega) only [zm110, zE_0, zE_1, zE_2, zE_3, zE_4, zE_5, zE_6, zE_7, zE_8, zE_9, zE_10, zE_11, zE_12, zE_13, zE_14, zE_neg, zc131, if_pos c.1, if_pos c.2, ↓zb_s, ↓zo_12, e2, e3, ↓zlet_s]
theorem zk_die {h : zH} {s : zS} {b : Int} (hC : zCl h s) (hW : zWf s) (hb : b = 0 ∨ b = 1) (e : s 43 0 = 0) : zDo h (zup s 44 0 (b + 1)) (zm81 (some (12, 0)) (zE b) h) () := by
  have z1 : ¬ zE 1 = zE 0 := by decide
  have hC0 := hC
  obtain ⟨cr, cs, -⟩ := hC
  obtain ⟨wA, wK, wC, wD, wP, wR, wZ, wT, wG, wE, wM, wX⟩ := hW
  have e44 : zup s 44 0 (b + 1) 44 0 = b + 1 := zup_s
  have e1 : zm81 (some (12, 0)) (zE b) h = zm81_14 (some (12, 0)) (zE (b + 1)) h := by
    rcases hb with rfl | rfl
    · show _ = zm81_14 (some (12, 0)) (zE 1) h
      simp (discharger := omega) only [zm81, ↓zo_12, zCs13 cs, e, zE_0, zE_1, zE_2, zE_3, zE_4, zE_5, zE_6, zE_7, zE_8, zE_9, zE_10, zE_11, zE_12, zE_13, zE_14, zE_neg, if_true]
    · show _ = zm81_14 (some (12, 0)) (zE 2) h
      simp (discharger := omega) only [zm81, ↓zo_12, zCs13 cs, e, zE_0, zE_1, zE_2, zE_3, zE_4, zE_5, zE_6, zE_7, zE_8, zE_9, zE_10, zE_11, zE_12, zE_13, zE_14, zE_neg, if_true, z1, if_false]
  refine ⟨⟨wA, wK, wC, wD, wP, wR, wZ, wT, wG, wE, wM, wX.1, ?_, fun z => ?_, wX.2.2.2⟩, zsi h 12 0 12 (zE (b + 1)), ?_, zw_12_12 hC0, zKp_i (fun z => z (by unfold zpc1; decide)), by show zce h ≤ _; omega, by show zso h ≤ _; omega⟩
  · rw [e44]; omega
  · have z : s 43 0 = 1 := z
    omega
  · rw [e1, zm81_14, zo_12, zlet_s]
theorem zk_rise {h : zH} {s : zS} (hC : zCl h s) (hW : zWf s) (c : ¬ s 43 0 = 0) : zDo h (zup s 43 0 0) (zm82 (some (12, 0)) h) (zE (zcnt (fun r => s 33 r = 0) (s 30 0).toNat)) := by
  have cr := hC.1
  have cs := hC.2.1
  have cR := hC.2.2.2.2.1
  obtain ⟨wA, wK, wC, wD, wP, wR, wZ, wT, wG, wE, wM, wX⟩ := hW
  have w1 := wX.1
  have w2 := wX.2.2.1 (by omega)
  have hC' := zw_12_rise hC w2
  have hW' : zWf (zup s 43 0 0) := by
    refine ⟨wA, wK, wC, wD, wP, wR, wZ, wT, wG, wE, wM, ⟨?_, wX.2.1, fun z => ?_, wX.2.2.2⟩⟩
    · rw [zup_s]; omega
    · rw [zup_s] at z; omega
  have hs : ∀ r, 0 ≤ r → r < s 30 0 → 0 ≤ s 33 r ∧ s 33 r ≤ 4 := fun r r0 r1 => (wR.2.2 r r0 r1).2.2.1
  refine ⟨hW', zsi (zsi h 12 0 13 (zE 0)) 12 0 12 (zE 0), ?_, hC', (zKp_i (fun z => z (by unfold zpc1; decide))).tr (zKp_i (fun z => z (by unfold zpc1; decide))), by show zce h ≤ _; omega, by show zso h ≤ _; omega⟩
  simp (discharger := omega) only [zm82, ↓zo_12, zCs13 cs, zE_0, zE_1, zE_2, zE_3, zE_4, zE_5, zE_6, zE_7, zE_8, zE_9, zE_10, zE_11, zE_12, zE_13, zE_14, zE_neg, zE_inj, c, if_false, ↓zlet_s]
  have e33 : zup s 43 0 0 33 = s 33 := funext fun _ => zup_j (by decide)
  have e30 : zup s 43 0 0 30 0 = s 30 0 := zup_j (by decide)
  have q := zc82_18 (s := zup s 43 0 0) hC'.1 hC'.2.2.2.2.1 (by rw [e30]; exact wR.1) (by rw [e30, e33]; exact hs)
  rw [e33, e30] at q
  exact q
theorem zk_program {h : zH} {s : zS} (hC : zCl h s) (hW : zWf s) (c5 : s 25 0 < 6) : zDo h (zup s 25 0 (s 25 0 + 1)) (zm49 (some (12, 0)) h) (zE (s 25 0)) := by
  have cr := hC.1
  have cP := hC.2.2.2.1
  have cN := hC.2.2.2.2.2.2.2.2.2.2.2.2.2
  have hW0 := hW
  obtain ⟨wA, wK, wC, wD, wP, wR, wZ, wT, wG, wE, wM, wX⟩ := hW
  have hn := wP.1
  have hC' := zpg_C hC hW0 c5
  have hl := cP.1.2
  have hq := cN.2.2.1
  obtain ⟨cc, nn, hc1, hn1, he⟩ := zladd_e (h := zpgH h) (k := 15) (k2 := 4) (i2 := zct h 4) (show zln h 15 0 < 33 by omega)
  have hC2 : zCl (zladd (zpgH h) 15 0 4 (zct h 4)) (zup s 25 0 (s 25 0 + 1)) := by
    rw [he]
    exact hC'.kp zKp_o
  have hK2 : zKp (fun k => ¬ zpc1 k) h (zladd (zpgH h) 15 0 4 (zct h 4)) := by
    rw [he]
    exact zKp.tr (zpg_k _ (fun z => z (by unfold zpc1; decide)) (fun z => z (by unfold zpc1; decide)) (fun z => z (by unfold zpc1; decide)) (fun z => z (by unfold zpc1; decide)) (fun z => z (by unfold zpc1; decide))) zKp_o
  have e25 : zup s 25 0 (s 25 0 + 1) 25 0 = s 25 0 + 1 := zup_s
  have s26 : s 26 (s 25 0) = 0 := wX.2.2.2.2.1 _ (Int.le_refl _) (by omega)
  have hW' : zWf (zup s 25 0 (s 25 0 + 1)) := by
    refine ⟨wA, wK, wC, wD, ⟨?_, fun u u0 u1 => ?_, wP.2.2.1, fun u x u0 u1 x0 x1 => ?_⟩, ⟨wR.1, wR.2.1, fun r r0 r1 => ?_⟩, wZ, wT, wG, wE, wM, wX.1, wX.2.1, wX.2.2.1, wX.2.2.2.1, fun u u0 u1 => ?_, wX.2.2.2.2.2⟩
    · rw [e25]; omega
    · rw [e25] at u1
      show 0 ≤ s 26 u ∧ s 26 u ≤ 10
      by_cases e : u = s 25 0
      · rw [e, s26]; omega
      · exact wP.2.1 u u0 (by omega)
    · rw [e25] at u1
      have x2 : x < s 26 u := x1
      by_cases e : u = s 25 0
      · rw [e, s26] at x2; omega
      · exact wP.2.2.2 u x u0 (by omega) x0 x1
    · obtain ⟨q1, q2, q3⟩ := wR.2.2 r r0 r1
      refine ⟨q1, ⟨q2.1, ?_⟩, q3⟩
      rw [e25]
      show s 32 r < s 25 0 + 1
      omega
    · rw [e25] at u0
      exact wX.2.2.2.2.1 u (by omega) u1
  refine ⟨hW', zladd (zpgH h) 15 0 4 (zct h 4), ?_, hC2, hK2, ?_, ?_⟩
  · have g1 : zelB (zpgH h) 15 0 = true := zel_t 4 ⟨rfl, rfl⟩ fun j hj => by
      have := (cP.2 (j : Int) (by omega) (by have : j < zln h 15 0 := hj; omega)).1
      exact this
    have g2 : zi (zpgH h) 15 0 1 = 1 := cP.1.1
    have g3 : zln (zpgH h) 15 0 < 33 := show zln h 15 0 < 33 by omega
    have g0 : ¬ ((10 : Int32) < 0 ∨ 100000 < (10 : Int32).toNatClampNeg) := by decide
    have g4 : (zm7 (some (4, zct h 4)) (znw h 4 0 5)) = some (.inl (), zpgH h) := by
      rw [zm7, znn_s, if_neg g0, zlet_s, zo_4, zlet_s, if_neg g0, zlet_s, zlet_s, if_neg g0, zlet_s, zlet_s]
      rfl
    rw [zm49, zo_12, zLPz cr cP, if_pos (by rw [zE_6, zE_lt (by omega) (by omega) (by omega) (by omega)]; exact c5)]
    rw [zlet_s, zo_4, g4, zb2_s, zCr1 cr, znn_s, znn_s, zif_s (by rw [g1]; rfl), zif_s ⟨g2, g3⟩, zlet_s, zLPz hC2.1 hC2.2.2.2.1, zup_s, zE_1, zE_sub]
    congr 4
    omega
  · rw [he]
    show zce h + 1 + 1 + 1 + 1 + cc ≤ _
    omega
  · rw [he]
    show zso h + 5 + 10 + 10 + 10 + nn ≤ _
    omega
theorem zk_step {h : zH} {s : zS} {p k o w : Int} (hC : zCl h s) (hW : zWf s) (q1 : 0 ≤ p ∧ p < s 25 0) (q2 : zstO k o w) (o1 : -2147483648 ≤ o) (o2 : o < 2147483648) (w1 : -2147483648 ≤ w) (w2 : w < 2147483648) (h26 : s 26 p < 10) (e4 : ¬ zxs 0 (s 30 0) (zstU s p)) : zDo h (zstS s p k o w) (zm50 (some (12, 0)) (zE p) (zE k) (zE o) (zE w) h) (zE (s 26 p + 1)) := by
  have hC0 := hC
  have hW0 := hW
  obtain ⟨cr, cs, cA, cP, cR, -⟩ := hC
  obtain ⟨wA, wK, wC, wD, wP, wR, wZ, wT, wG, wE, wM, wX⟩ := hW
  have nP := wP.1
  have n26 := wP.2.1 p q1.1 q1.2
  have hk := q2.1
  obtain ⟨d1, -⟩ := zc51 (h := h) (k := k) (o := o) (w := w) (by omega) (by omega) o1 o2 w1 w2
  have d1 := d1 q2
  have e3' : ¬ 10 ≤ s 26 p := by omega
  have e5 : zi h 4 p.toNat 4 = zE 0 := by rw [zCp4 cP q1.1 q1.2]; exact congrArg zE (zcn1_f e4)
  refine ⟨zstS_W hW0 q1.1 q1.2 q2 o1 o2 w1 w2 (by omega) e4, zstH h p (s 26 p) k o w, ?_, zstH_C hC0 hW0 q1.1 q1.2 (by omega), zstH_k _ (fun z => z (by unfold zpc1; decide)) (fun z => z (by unfold zpc1; decide)) (fun z => z (by unfold zpc1; decide)) (fun z => z (by unfold zpc1; decide)), by show zce h ≤ _; omega, by show zso h ≤ _; omega⟩
  have e6 : zi (zstH h p (s 26 p) k o w) 4 p.toNat 3 = zE (s 26 p + 1) := zi_s
  simp (discharger := omega) only [zm50, ↓zo_12, ↓zLPz cr cP, zc130, if_pos q1, ↓zb_s, d1, ↓zLPg cr cP, ↓zo_4, zCp3 cP, zE_0, zE_1, zE_2, zE_3, zE_4, zE_5, zE_6, zE_7, zE_8, zE_9, zE_10, zE_11, zE_12, zE_13, zE_14, zE_neg, zE_le, e3', if_false, e5, if_true, zc8 cP wP, e6]
