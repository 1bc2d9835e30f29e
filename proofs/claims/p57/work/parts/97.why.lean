set_option maxRecDepth 16384
/-! why: both sides. -/
def zit (s : zS) (r : Int) : Int := 10 * s 32 r + s 34 r
theorem zit_r {s : zS} (hP : zWp s) (hW : zWr s) {r : Int} (r0 : 0 ≤ r) (r1 : r < s 30 0) (hs : s 33 r ≤ 1) : (0 ≤ s 32 r ∧ s 32 r < s 25 0) ∧ (0 ≤ s 34 r ∧ s 34 r < s 26 (s 32 r)) ∧ s 26 (s 32 r) ≤ 10 ∧ s 25 0 ≤ 6 ∧ (0 ≤ zit s r ∧ zit s r < 60) ∧ (0 ≤ s 27 (zit s r) ∧ s 27 (zit s r) ≤ 6) ∧ (s 27 (zit s r) ≠ 5 → 0 ≤ s 28 (zit s r) ∧ s 28 (zit s r) ≤ 1000) ∧ (s 27 (zit s r) = 3 → s 28 (zit s r) ≤ 5) ∧ (s 27 (zit s r) ≠ 1 → s 27 (zit s r) ≠ 3 → s 27 (zit s r) ≠ 5 → s 28 (zit s r) ≤ 2) ∧ (s 27 (zit s r) = 0 → 1 ≤ s 29 (zit s r) ∧ s 29 (zit s r) ≤ 100) := by
  obtain ⟨q1, q2, q3, q4, q5, -⟩ := hW.2.2 r r0 r1
  have h1 := q5 hs
  have h2 := hP.2.1 (s 32 r) q2.1 q2.2
  have h3 := hP.1
  obtain ⟨k1, k2, k3, k4, k5⟩ := hP.2.2.2 (s 32 r) (s 34 r) q2.1 q2.2 q4.1 h1
  unfold zit
  exact ⟨q2, ⟨q4.1, h1⟩, h2.2, h3.2, by omega, k1, k2, k3, k4, k5⟩
theorem zc12 {h : zH} {s : zS} (hC : zCP h s) (hR : zCR h s) (hP : zWp s) (hW : zWr s) {r : Int} (r0 : 0 ≤ r) (r1 : r < s 30 0) (hs : s 33 r ≤ 1) : zm12 (some (5, r.toNat)) h = some (.inl (zE (s 27 (zit s r))), h) := by
  obtain ⟨q1, q2, q3, q4, q5, q6, q7, q8, q9, q10⟩ := zit_r hP hW r0 r1 hs
  have e1 : ¬ s 26 (s 32 r) ≤ s 34 r := by omega
  have e2 : ∀ f : Int32 → zRs Int32, zri (zr h 4 (s 32 r).toNat 0) (zE (s 34 r)) h f = f (zE (s 27 (zit s r))) := fun f => zri_s (zCp0 hC q1.1 q1.2) rfl (zCpL0 hC q1.1 q1.2) q2.1 (by omega) (by omega) (zCpS0 hC q1.1 q1.2 _ q2.1 q2.2)
  simp (discharger := omega) only [zm12, ↓zo_5, zCrP hR, ↓zo_4, zCp3 hC, zCr3_ hR, zE_le, e1, if_false, ↓e2]
theorem zc13 {h : zH} {s : zS} (hC : zCP h s) (hR : zCR h s) (hP : zWp s) (hW : zWr s) {r : Int} (r0 : 0 ≤ r) (r1 : r < s 30 0) (hs : s 33 r ≤ 1) : zm13 (some (5, r.toNat)) h = some (.inl (zE (s 28 (zit s r))), h) := by
  obtain ⟨q1, q2, q3, q4, q5, q6, q7, q8, q9, q10⟩ := zit_r hP hW r0 r1 hs
  have e1 : ¬ s 26 (s 32 r) ≤ s 34 r := by omega
  have e2 : ∀ f : Int32 → zRs Int32, zri (zr h 4 (s 32 r).toNat 1) (zE (s 34 r)) h f = f (zE (s 28 (zit s r))) := fun f => zri_s (zCp1 hC q1.1 q1.2) rfl (zCpL1 hC q1.1 q1.2) q2.1 (by omega) (by omega) (zCpS1 hC q1.1 q1.2 _ q2.1 q2.2)
  simp (discharger := omega) only [zm13, ↓zo_5, zCrP hR, ↓zo_4, zCp3 hC, zCr3_ hR, zE_le, e1, if_false, ↓e2]
def zsh (s : zS) (r : Int) : Int := if s 27 (zit s r) = 0 then s 29 (zit s r) else 0
theorem zc14 {h : zH} {s : zS} (hC : zCP h s) (hR : zCR h s) (hP : zWp s) (hW : zWr s) {r : Int} (r0 : 0 ≤ r) (r1 : r < s 30 0) (hs : s 33 r ≤ 1) : zm14 (some (5, r.toNat)) h = some (.inl (zE (zsh s r)), h) := by
  obtain ⟨q1, q2, q3, q4, q5, q6, q7, q8, q9, q10⟩ := zit_r hP hW r0 r1 hs
  have e2 : ∀ f : Int32 → zRs Int32, zri (zr h 4 (s 32 r).toNat 2) (zE (s 34 r)) h f = f (zE (s 29 (zit s r))) := fun f => zri_s (zCp2 hC q1.1 q1.2) rfl (zCpL2 hC q1.1 q1.2) q2.1 (by omega) (by omega) (zCpS2 hC q1.1 q1.2 _ q2.1 q2.2)
  unfold zsh
  by_cases e : s 27 (zit s r) = 0
  · rw [if_pos e]
    simp (discharger := omega) only [zm14, ↓zo_5, zc12 hC hR hP hW r0 r1 hs, ↓zb_s, e, zE_0, zE_1, zE_2, zE_3, zE_4, zE_5, zE_6, zE_7, zE_8, zE_9, zE_10, zE_11, zE_12, zE_13, zE_14, zE_neg, if_true, zCrP hR, ↓zo_4, zCr3_ hR, ↓e2]
  · rw [if_neg e]
    simp (discharger := omega) only [zm14, ↓zo_5, zc12 hC hR hP hW r0 r1 hs, ↓zb_s, zE_0, zE_1, zE_2, zE_3, zE_4, zE_5, zE_6, zE_7, zE_8, zE_9, zE_10, zE_11, zE_12, zE_13, zE_14, zE_neg, zE_inj, e, if_false]
/-- why the step of a release that runs does not go on -/
noncomputable def zrsn (s : zS) (r : Int) : Int :=
  if s 27 (zit s r) = 0 then zbr s r (s 28 (zit s r)) (s 29 (zit s r))
  else if s 27 (zit s r) = 1 then (if s 28 (zit s r) ≤ s 1 0 - s 35 r then 0 else 8)
  else if s 27 (zit s r) = 2 then (if s 13 (3 * s 3 (s 31 r) + s 28 (zit s r)) = s 31 r then (if zvd s (3 * s 3 (s 31 r) + s 28 (zit s r)) = 0 then 9 else 0) else 9)
  else if s 27 (zit s r) = 3 then (if s 28 (zit s r) ≤ zpop (s 36 r).toNat then 0 else 10)
  else if s 27 (zit s r) = 4 then zbr s r (s 28 (zit s r)) 0
  else if s 27 (zit s r) = 5 then (if s 37 r = 0 then 11 else 0)
  else zitp (zxs 0 200 (zdrN s (s 3 (s 31 r)) (s 28 (zit s r)))) 12 0
theorem zpop_r {m : Nat} : zpop m ≤ 8 := by
  unfold zpop
  exact Nat.le_trans (List.length_filter_le _ _) (by simp)
theorem zc64 {h : zH} {s : zS} (hC : zCl h s) (hW : zWf s) {r : Int} (r0 : 0 ≤ r) (r1 : r < s 30 0) (hs : s 33 r ≤ 1) : zm64 (some (12, 0)) (some (5, r.toNat)) h = some (.inl (zE (zrsn s r)), h) := by
  have hC0 := hC
  have hW0 := hW
  obtain ⟨cr, cs, cA, cP, cR, cZ, cT, cE, cV, cK, cG, cX, cM, cN⟩ := hC
  obtain ⟨wA, wK, wC, wD, wP, wR, wZ, wT, wG, wE, wM, wX⟩ := hW
  obtain ⟨q1, q2, q3, q4, q5, q6, q7, q8, q9, q10⟩ := zit_r wP wR r0 r1 hs
  have e13 := zc13 cP cR wP wR r0 r1 hs
  have e12 := zc12 cP cR wP wR r0 r1 hs
  have e14 := zc14 cP cR wP wR r0 r1 hs
  obtain ⟨w1, w2, w3, w4, w5, w6, w7, w8, w9, w10, w11⟩ := wR.2.2 r r0 r1
  have hA := (wA.2 (s 31 r) w1.1 w1.2).1
  have hn := wA.1
  have hd := wD.1
  have e0 : ¬ (s 27 (zit s r) < 0 ∨ 6 < s 27 (zit s r)) := by omega
  have z10 : ¬ zE 1 = zE 0 := by decide
  have h28 := q7
  unfold zrsn
  have hgo : ∀ f0 f1 f2 f3 f4 f5 f6 f7 f8 : zRs Int32, (if (zE (s 27 (zit s r))).toInt < 0 ∨ 6 < (zE (s 27 (zit s r))).toInt then f7 else if zE (s 27 (zit s r)) = (0 : Int32) then f0 else if zE (s 27 (zit s r)) = (1 : Int32) then f1 else if zE (s 27 (zit s r)) = (2 : Int32) then f2 else if zE (s 27 (zit s r)) = (3 : Int32) then f3 else if zE (s 27 (zit s r)) = (4 : Int32) then f4 else if zE (s 27 (zit s r)) = (5 : Int32) then f5 else if zE (s 27 (zit s r)) = (6 : Int32) then f6 else f8) = (if s 27 (zit s r) = 0 then f0 else if s 27 (zit s r) = 1 then f1 else if s 27 (zit s r) = 2 then f2 else if s 27 (zit s r) = 3 then f3 else if s 27 (zit s r) = 4 then f4 else if s 27 (zit s r) = 5 then f5 else f6) := fun f0 f1 f2 f3 f4 f5 f6 f7 f8 => by
    rw [zE_to (by omega) (by omega), if_neg e0]
    rcases (show s 27 (zit s r) = 0 ∨ s 27 (zit s r) = 1 ∨ s 27 (zit s r) = 2 ∨ s 27 (zit s r) = 3 ∨ s 27 (zit s r) = 4 ∨ s 27 (zit s r) = 5 ∨ s 27 (zit s r) = 6 by omega) with e | e | e | e | e | e | e <;> rw [e] <;> rfl
  rw [zm64, zo_5, e13, zb_s, e12, zb_s, hgo]
  by_cases k0 : s 27 (zit s r) = 0
  · have g1 := q9 (by omega) (by omega) (by omega)
    have g2 := q10 k0
    have g3 := h28 (by omega)
    have hsh : zsh s r = s 29 (zit s r) := if_pos k0
    rw [hsh] at e14
    rw [if_pos k0, if_pos k0, e14, zb_s, zo_12, zc65 hC0 hW0 r0 r1 g3.1 (by omega) (by omega) g2.2, zb_s]
  · rw [if_neg k0, if_neg k0]
    by_cases k1 : s 27 (zit s r) = 1
    · have g3 := h28 (by omega)
      rw [if_pos k1, if_pos k1, zo_12, zCs11 cs, zCr4_ cR r0 r1, zE_sub]
      by_cases c : s 28 (zit s r) ≤ s 1 0 - s 35 r
      · rw [if_pos (by rw [zE_le (by omega) (by omega) (by omega) (by omega)]; exact c), if_pos c, zE_0]
      · rw [if_neg (by rw [zE_le (by omega) (by omega) (by omega) (by omega)]; exact c), if_neg c, zE_8]
    · rw [if_neg k1, if_neg k1]
      by_cases k2 : s 27 (zit s r) = 2
      · have g1 := q9 (by omega) (by omega) (by omega)
        have g3 := h28 (by omega)
        obtain ⟨y1, y2, y3, y4, y5, y6⟩ := wK (3 * s 3 (s 31 r) + s 28 (zit s r)) (by omega) (by omega)
        have he : (zrf 0 (s 13 (3 * s 3 (s 31 r) + s 28 (zit s r))) = (some (0, (s 31 r).toNat) : zq)) = (s 13 (3 * s 3 (s 31 r) + s 28 (zit s r)) = s 31 r) := by
          rw [← zrf_s (k := 0) w1.1, zrf_i y2.1 (by omega)]
        rw [if_pos k2, if_pos k2, zo_12, zCrA cR r0 r1, zo_0, zCa1 cA w1.1 w1.2, zLVa cr cV hA.1 hA.2, zo_9, zLKa cV hA.1 hA.2 g3.1 (by omega), zo_10, zCk1 cK (by omega) (by omega)]
        by_cases c : s 13 (3 * s 3 (s 31 r) + s 28 (zit s r)) = s 31 r
        · have hv := zvd_r s (3 * s 3 (s 31 r) + s 28 (zit s r))
          rw [if_pos (he.mpr c), if_pos c, zc34 cK cM wM (by omega) (by omega), zb_s]
          by_cases d : zvd s (3 * s 3 (s 31 r) + s 28 (zit s r)) = 0
          · rw [d, if_pos zE_0.symm, if_pos rfl, zE_9]
          · rw [if_neg (by rw [zE_0, zE_inj (by omega) (by omega) (by omega) (by omega)]; exact d), if_neg d, zE_0]
        · rw [if_neg (fun z => c (he.mp z)), if_neg c, zE_9]
      · rw [if_neg k2, if_neg k2]
        by_cases k3 : s 27 (zit s r) = 3
        · have g1 := q8 k3
          have g3 := h28 (by omega)
          have hp := zpop_r (m := (s 36 r).toNat)
          rw [if_pos k3, if_pos k3, zCr5_ cR r0 r1, zc292 w7.1 (by omega), zb_s]
          by_cases c : s 28 (zit s r) ≤ zpop (s 36 r).toNat
          · rw [if_pos (by rw [zE_le (by omega) (by omega) (by omega) (by omega)]; exact c), if_pos c, zE_0]
          · rw [if_neg (by rw [zE_le (by omega) (by omega) (by omega) (by omega)]; exact c), if_neg c, zE_10]
        · rw [if_neg k3, if_neg k3]
          by_cases k4 : s 27 (zit s r) = 4
          · have g1 := q9 (by omega) (by omega) (by omega)
            have g3 := h28 (by omega)
            have hsh : zsh s r = 0 := if_neg k0
            rw [hsh] at e14
            rw [if_pos k4, if_pos k4, e14, zb_s, zo_12, zc65 hC0 hW0 r0 r1 g3.1 (by omega) (by omega) (by omega), zb_s]
          · rw [if_neg k4, if_neg k4]
            by_cases k5 : s 27 (zit s r) = 5
            · rw [if_pos k5, if_pos k5, zCr8_ cR r0 r1]
              by_cases c : s 37 r = 0
              · rw [c, if_pos zE_0.symm, if_pos rfl, zE_11]
              · rw [if_neg (by rw [zE_0, zE_inj (by omega) (by omega) (by omega) (by omega)]; exact c), if_neg c, zE_0]
            · have g1 := q9 k1 k3 k5
              have g3 := h28 k5
              rw [if_neg k5, if_neg k5, zCrA cR r0 r1, zo_0, zo_12, zCa1 cA w1.1 w1.2]
              obtain ⟨b, b1, b2⟩ := zc72 cr cA cV cK wA wK wC hA.1 hA.2 g3.1 (show s 28 (zit s r) < 3 by omega)
              rw [b2, zb_s]
              rcases b1 with ⟨rfl, b1⟩ | ⟨rfl, b1⟩
              · rw [if_neg (show ¬ zE 1 = (0 : Int32) by decide), zitp_f b1, zE_0]
              · rw [if_pos zE_0.symm, zitp_t (Classical.not_not.mp b1)]
                rfl
