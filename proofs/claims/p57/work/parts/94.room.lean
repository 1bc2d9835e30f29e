set_option maxRecDepth 16384
/-! Whether there is room. -/
def zov (s : zS) (a k : Int) : Prop := s 13 k ≠ -1 ∧ s 13 k ≠ a ∧ zxs 0 (s 30 0) (zrlP s (s 13 k))
/-- the rival: the release of the candidate there, if it is another artefact's and under way -/
def zrvI (s : zS) (a k w : Int) : Prop := (w = -1 ∧ ¬ zov s a k) ∨ ((0 ≤ w ∧ w < s 30 0) ∧ zov s a k ∧ zrlP s (s 13 k) w)
theorem zc66 {h : zH} {s : zS} (hR : zCr h) (hC : zCR h s) (hK' : zCK h s) (hW : zWr s) (hK : zWk s) {a k : Int} (a0 : 0 ≤ a) (k0 : 0 ≤ k) (k1 : k < 12) : ∃ w, zrvI s a k w ∧ zm66 (some (12, 0)) (some (0, a.toNat)) (some (10, k.toNat)) h = some (.inl (zrf 5 w), h) := by
  obtain ⟨q1, q2, q3, q4, q5, q6⟩ := hK k k0 k1
  by_cases e1 : s 13 k = -1
  · refine ⟨-1, Or.inl ⟨rfl, fun z => z.1 e1⟩, ?_⟩
    simp (discharger := omega) only [zm66, ↓zo_10, zCk1 hK', e1, zrf_n, if_true]
  · have n1 : ¬ zrf 0 (s 13 k) = none := by rw [zrf_z q2.1]; exact e1
    have he : (zrf 0 (s 13 k) = (some (0, a.toNat) : zq)) = (s 13 k = a) := by
      rw [← zrf_s (k := 0) a0, zrf_i q2.1 (by omega)]
    by_cases e2 : s 13 k = a
    · have he2 := he.trans (eq_true e2)
      refine ⟨-1, Or.inl ⟨rfl, fun z => z.2.1 e2⟩, ?_⟩
      simp (discharger := omega) only [zm66, ↓zo_10, zCk1 hK', n1, if_false, he2, if_true, zrf_n]
    · have he2 := he.trans (eq_false e2)
      obtain ⟨w, w1, w2⟩ := zc53i hR hC hW (a := s 13 k) (by omega)
      rw [← zrf_s (k := 0) (show 0 ≤ s 13 k by omega)] at w2
      refine ⟨w, ?_, ?_⟩
      · rcases w1 with ⟨rfl, w1⟩ | ⟨w0, w1⟩
        · exact Or.inl ⟨rfl, fun z => w1 z.2.2⟩
        · exact Or.inr ⟨w0, ⟨e1, e2, w, w0.1, w0.2, w1⟩, w1⟩
      · simp (discharger := omega) only [zm66, ↓zo_10, zCk1 hK', n1, if_false, he2, ↓zo_12, w2, ↓zb_s]
def zrmf (s : zS) (v g sh o r : Int) : Int := if r = g then zpf sh else if o = 1 ∧ s 13 (3 * v + r) = s 13 (3 * v + g) then 0 else zpf (s 14 (3 * v + r))
def zrmD (s : zS) (v g sh : Int) : Int := (zpf sh - zpf (s 14 (3 * v + g))) + (if sh = 0 ∧ s 12 (3 * v + g) = -1 then 2 else 0)
def zroom (s : zS) (v g sh o : Int) : Prop := (ztkn s g + zrmD s v g sh ≤ zpls s g ∨ ztkn s g + zrmD s v g sh ≤ ztkn s g) ∧ (sh = 0 ∨ zsum (zrmf s v g sh o) 3 ≤ 4)
theorem zpf_r (sh : Int) : 0 ≤ zpf sh ∧ zpf sh ≤ 2 := by
  unfold zpf
  split
  · omega
  · split <;> omega
theorem ztkn_r (s : zS) (g : Int) : 0 ≤ ztkn s g ∧ ztkn s g ≤ 16 := by
  have := zsum_r (f := fun v => ztk1 s (3 * v + g)) (b := 4) (fun i => ztk1_r s _) (by omega) 4
  unfold ztkn
  omega
theorem zpls_r {s : zS} (hZ : zWz s) {g : Int} (g0 : 0 ≤ g) (g1 : g < 3) : 0 ≤ zpls s g ∧ zpls s g ≤ 20 := by
  have h1 := hZ.2.2.2 g g0 g1
  have := zsum_r (f := fun z => if s 56 (3 * g + z) = 0 then 4 else 0) (b := 4) (fun i => by
    by_cases e : s 56 (3 * g + i) = 0
    · simp only [e, if_true]; omega
    · simp only [e, if_false]; omega) (by omega) 3
  unfold zpls
  omega
theorem zrmD_r (s : zS) (v g sh : Int) : -2 ≤ zrmD s v g sh ∧ zrmD s v g sh ≤ 4 := by
  have h1 := zpf_r sh
  have h2 := zpf_r (s 14 (3 * v + g))
  unfold zrmD
  split <;> omega
theorem zrmf_r (s : zS) (v g sh o r : Int) : 0 ≤ zrmf s v g sh o r ∧ zrmf s v g sh o r ≤ 2 := by
  have h1 := zpf_r sh
  have h2 := zpf_r (s 14 (3 * v + r))
  unfold zrmf
  split
  · omega
  · split <;> omega
theorem zsum_s {f : Int → Int} {i : Int} (h : 0 ≤ i) : zsum f (i + 1).toNat = zsum f i.toNat + f i := by
  rw [show (i + 1).toNat = i.toNat + 1 by omega]
  show zsum f i.toNat + f (i.toNat : Int) = _
  rw [show (i.toNat : Int) = i by omega]
theorem zsum_g {f : Int → Int} {g : Int} (g0 : 0 ≤ g) (g1 : g < 3) : zsum f 3 = f g + zsum (fun r => if r = g then 0 else f r) 3 := by
  rcases (show g = 0 ∨ g = 1 ∨ g = 2 by omega) with rfl | rfl | rfl
  · show ((0 + f 0) + f 1) + f 2 = f 0 + (((0 + (if (0 : Int) = 0 then 0 else f 0)) + (if (1 : Int) = 0 then 0 else f 1)) + (if (2 : Int) = 0 then 0 else f 2))
    rw [if_pos rfl, if_neg (by decide), if_neg (by decide)]; omega
  · show ((0 + f 0) + f 1) + f 2 = f 1 + (((0 + (if (0 : Int) = 1 then 0 else f 0)) + (if (1 : Int) = 1 then 0 else f 1)) + (if (2 : Int) = 1 then 0 else f 2))
    rw [if_pos rfl, if_neg (by decide), if_neg (by decide)]; omega
  · show ((0 + f 0) + f 1) + f 2 = f 2 + (((0 + (if (0 : Int) = 2 then 0 else f 0)) + (if (1 : Int) = 2 then 0 else f 1)) + (if (2 : Int) = 2 then 0 else f 2))
    rw [if_pos rfl, if_neg (by decide), if_neg (by decide)]; omega
theorem zc68_49 {h : zH} {s : zS} (hC : zCR h s) (hV : zCV h s) (hK' : zCK h s) (hK : zWk s) (hA : zWa s) (hW : zWr s) {v g sh w o : Int} (v0 : 0 ≤ v) (v1 : v < 4) (g0 : 0 ≤ g) (g1 : g < 3) (ho : (w = -1 ∧ o = 0) ∨ ((0 ≤ w ∧ w < s 30 0) ∧ s 31 w = s 13 (3 * v + g) ∧ o = 1)) : zm68_49 zm68_81 zN0 (zE g) (zrf 5 w) (some (9, v.toNat)) (zE (zpf sh)) (zE 0) h = zm68_81 (zE (zsum (zrmf s v g sh o) 3)) h := by
  rw [zsum_g g0 g1, show zrmf s v g sh o g = zpf sh from if_pos rfl]
  have hn := hA.1
  have hnr := hW.1
  have z1 : ¬ zE 1 = zE 0 := by decide
  refine zloop0 (W := fun n i t => zm68_49 zm68_81 n (zE g) (zrf 5 w) (some (9, v.toNat)) (zE t) (zE i) h) (N := 3) (fun i t => t = zpf sh + zsum (fun r => if r = g then 0 else zrmf s v g sh o r) i.toNat) (fun q => q = zm68_81 (zE (zpf sh + zsum (fun r => if r = g then 0 else zrmf s v g sh o r) 3)) h) (zpf sh) (by show zpf sh = zpf sh + 0; omega) (by omega) (by omega) ?_ ?_
  · rintro n t rfl
    simp (discharger := omega) only [zm68_49, zE_3, Int32.le_refl, if_true]
    rfl
  · rintro n i t i0 i1 rfl
    have h3 : ¬ (3 : Int) ≤ i := by omega
    obtain ⟨q1, q2, q3, q4, q5, q6⟩ := hK (3 * v + i) (by omega) (by omega)
    have hp := zpf_r (s 14 (3 * v + i))
    have stp : ∀ b : Int, zbo b (o = 1 ∧ s 13 (3 * v + i) = s 13 (3 * v + g)) → zm68_67 (zm68_49 zm68_81 n) (zE g) (zrf 5 w) (some (9, v.toNat)) (zE (zpf sh + zsum (fun r => if r = g then 0 else zrmf s v g sh o r) i.toNat)) (zE i) (some (10, (3 * v + i).toNat)) (zE b) h = zm68_49 zm68_81 n (zE g) (zrf 5 w) (some (9, v.toNat)) (zE (zpf sh + zsum (fun r => if r = g then 0 else zrmf s v g sh o r) (i + 1).toNat)) (zE (i + 1)) h := fun b hb => by
      rw [zsum_s i0]
      by_cases e1 : i = g
      · rw [if_pos e1, Int.add_zero]
        simp (discharger := omega) only [zm68_67, zm68_79, e1, if_true, zE_0, zE_1, zE_2, zE_3, zE_4, zE_5, zE_6, zE_7, zE_8, zE_9, zE_10, zE_11, zE_12, zE_13, zE_14, zE_neg, ↓zlet_s, zE_add]
      · rw [if_neg e1]
        rcases hb with ⟨rfl, hb⟩ | ⟨rfl, hb⟩
        · have hf : zrmf s v g sh o i = 0 := by
            unfold zrmf
            rw [if_neg e1, if_pos hb]
          rw [hf, Int.add_zero]
          simp (discharger := omega) only [zm68_67, zm68_79, zE_inj, e1, if_false, zE_0, zE_1, zE_2, zE_3, zE_4, zE_5, zE_6, zE_7, zE_8, zE_9, zE_10, zE_11, zE_12, zE_13, zE_14, zE_neg, z1, ↓zlet_s, zE_add]
        · have hf : zrmf s v g sh o i = zpf (s 14 (3 * v + i)) := by
            unfold zrmf
            rw [if_neg e1, if_neg hb]
          rw [hf, ← Int.add_assoc]
          simp (discharger := omega) only [zm68_67, zm68_79, zE_inj, e1, if_false, zE_0, zE_1, zE_2, zE_3, zE_4, zE_5, zE_6, zE_7, zE_8, zE_9, zE_10, zE_11, zE_12, zE_13, zE_14, zE_neg, if_true, ↓zo_10, zCk2 hK', zc70, ↓zb_s, ↓zlet_s, zE_add]
    refine Or.inr ⟨_, rfl, ?_⟩
    rcases ho with ⟨rfl, rfl⟩ | ⟨hw, h31, rfl⟩
    · rw [← stp 0 (zbo_0 fun z => by omega)]
      simp (discharger := omega) only [zm68_49, zE_3, zE_le, h3, if_false, ↓zo_9, ↓zLKa hV, zrf_n, if_true, zE_0, zE_1, zE_2, zE_3, zE_4, zE_5, zE_6, zE_7, zE_8, zE_9, zE_10, zE_11, zE_12, zE_13, zE_14, zE_neg]
    · have n1 : ¬ zrf 5 w = none := by
        rw [zrf_z (by omega)]; omega
      have hw2 := (hW.2.2 w hw.1 hw.2).1
      have he : (zrf 0 (s 13 (3 * v + i)) = (some (0, (s 31 w).toNat) : zq)) = (s 13 (3 * v + i) = s 13 (3 * v + g)) := by
        rw [← zrf_s (k := 0) hw2.1, zrf_i q2.1 (by omega), h31]
      have o5 : ∀ f : Nat → Nat → zRs Int32, zob 5 (zrf 5 w) f = f 5 w.toNat := fun f => zob_f rfl hw.1
      by_cases e : s 13 (3 * v + i) = s 13 (3 * v + g)
      · have he2 := he.trans (eq_true e)
        rw [← stp 1 (zbo_1 ⟨rfl, e⟩)]
        simp (discharger := omega) only [zm68_49, zE_3, zE_le, h3, if_false, ↓zo_9, ↓zLKa hV, n1, ↓zo_10, ↓o5, zCk1 hK', zCrA hC, he2, if_true, zE_0, zE_1, zE_2, zE_3, zE_4, zE_5, zE_6, zE_7, zE_8, zE_9, zE_10, zE_11, zE_12, zE_13, zE_14, zE_neg]
      · have he2 := he.trans (eq_false e)
        rw [← stp 0 (zbo_0 fun z => e z.2)]
        simp (discharger := omega) only [zm68_49, zE_3, zE_le, h3, if_false, ↓zo_9, ↓zLKa hV, n1, ↓zo_10, ↓o5, zCk1 hK', zCrA hC, he2, zE_0, zE_1, zE_2, zE_3, zE_4, zE_5, zE_6, zE_7, zE_8, zE_9, zE_10, zE_11, zE_12, zE_13, zE_14, zE_neg]
theorem zc68 {h : zH} {s : zS} (hR : zCr h) (hA' : zCA h s) (hC : zCR h s) (hV : zCV h s) (hK' : zCK h s) (hX : zCX h s) (hA : zWa s) (hK : zWk s) (hW : zWr s) (hZ : zWz s) {a v g sh w o : Int} (a0 : 0 ≤ a) (a1 : a < s 2 0) (av : s 3 a = v) (g0 : 0 ≤ g) (g1 : g < 3) (s0 : 0 ≤ sh) (s1 : sh ≤ 100) (ho : (w = -1 ∧ o = 0) ∨ ((0 ≤ w ∧ w < s 30 0) ∧ s 31 w = s 13 (3 * v + g) ∧ o = 1)) : ∃ b, zbo b (zroom s v g sh o) ∧ zm68 (some (12, 0)) (some (0, a.toNat)) (zE g) (zE sh) (zrf 5 w) h = some (.inl (zE b), h) := by
  have hn := hA.1
  have hv := (hA.2 a a0 a1).1
  rw [av] at hv
  obtain ⟨q1, q2, q3, q4, q5, q6⟩ := hK (3 * v + g) (by omega) (by omega)
  have r1 := ztkn_r s g
  have r2 := zpls_r hZ g0 g1
  have r3 := zrmD_r s v g sh
  have r4 := zpf_r sh
  have r5 := zpf_r (s 14 (3 * v + g))
  have r6 := zsum_r (f := zrmf s v g sh o) (b := 2) (fun i => zrmf_r s v g sh o i) (by omega) 3
  have lp := zc68_49 (sh := sh) hC hV hK' hK hA hW hv.1 hv.2 g0 g1 ho
  have z1 : ¬ zE 1 = zE 0 := by decide
  have f40 : ∃ b, zbo b (sh = 0 ∨ zsum (zrmf s v g sh o) 3 ≤ 4) ∧ zm68_40 (zE g) (zE sh) (zrf 5 w) (some (9, v.toNat)) h = some (.inl (zE b), h) := by
    by_cases e : sh = 0
    · refine ⟨1, zbo_1 (Or.inl e), ?_⟩
      rw [zm68_40, e, if_pos zE_0.symm, zE_1]
    · have e' : ¬ zE sh = 0 := by
        rw [zE_0, zE_inj (by omega) (by omega) (by omega) (by omega)]; exact e
      by_cases c : zsum (zrmf s v g sh o) 3 ≤ 4
      · have c' : ¬ 4 < zsum (zrmf s v g sh o) 3 := by omega
        refine ⟨1, zbo_1 (Or.inr c), ?_⟩
        rw [zm68_40, if_neg e', zc70 s0 s1, zb_s, zE_0, lp]
        simp (discharger := omega) only [zm68_81, zE_0, zE_1, zE_2, zE_3, zE_4, zE_5, zE_6, zE_7, zE_8, zE_9, zE_10, zE_11, zE_12, zE_13, zE_14, zE_neg, zE_lt, c', if_false]
      · have c' : 4 < zsum (zrmf s v g sh o) 3 := by omega
        refine ⟨0, zbo_0 fun z => z.elim e c, ?_⟩
        rw [zm68_40, if_neg e', zc70 s0 s1, zb_s, zE_0, lp]
        simp (discharger := omega) only [zm68_81, zE_0, zE_1, zE_2, zE_3, zE_4, zE_5, zE_6, zE_7, zE_8, zE_9, zE_10, zE_11, zE_12, zE_13, zE_14, zE_neg, zE_lt, c', if_true]
  have f30 : ∃ b, zbo b (zroom s v g sh o) ∧ zm68_30 (some (12, 0)) (zE g) (zE sh) (zrf 5 w) (some (9, v.toNat)) (zE (ztkn s g)) (zE (ztkn s g + zrmD s v g sh)) h = some (.inl (zE b), h) := by
    obtain ⟨b, b1, b2⟩ := f40
    by_cases c1 : ztkn s g + zrmD s v g sh ≤ zpls s g
    · refine ⟨b, b1.cg ⟨fun z => ⟨Or.inl c1, z⟩, fun z => z.2⟩, ?_⟩
      simp (discharger := omega) only [zm68_30, ↓zo_12, zc71 hR hX hZ, ↓zb_s, zE_le, c1, if_true, b2]
    · by_cases c2 : ztkn s g + zrmD s v g sh ≤ ztkn s g
      · refine ⟨b, b1.cg ⟨fun z => ⟨Or.inr c2, z⟩, fun z => z.2⟩, ?_⟩
        simp (discharger := omega) only [zm68_30, ↓zo_12, zc71 hR hX hZ, ↓zb_s, zE_le, c1, c2, if_false, if_true, b2]
      · refine ⟨0, zbo_0 fun z => z.1.elim c1 c2, ?_⟩
        simp (discharger := omega) only [zm68_30, ↓zo_12, zc71 hR hX hZ, ↓zb_s, zE_le, c1, c2, if_false, zE_0, zE_1, zE_2, zE_3, zE_4, zE_5, zE_6, zE_7, zE_8, zE_9, zE_10, zE_11, zE_12, zE_13, zE_14, zE_neg]
  obtain ⟨b, b1, b2⟩ := f30
  refine ⟨b, b1, ?_⟩
  rw [← b2, zm68, zo_12, zo_0, zCa1 hA' a0 a1, av, zLVa hR hV hv.1 hv.2, zo_9, zLKa hV hv.1 hv.2 g0 g1, zc69 hR hV hK' hA hK g0 g1, zb_s, zo_10, zCk2 hK' (by omega) (by omega), zc70 q3.1 q3.2, zb_s, zc70 s0 s1, zb_s, zlet_s, zE_sub, zE_add, zCk0 hK' (by omega) (by omega)]
  unfold zrmD
  by_cases e : sh = 0
  · rw [e, if_pos zE_0.symm]
    by_cases e2 : s 12 (3 * v + g) = -1
    · rw [e2, zrf_n, if_pos rfl, zlet_s, zE_2, zE_add, if_pos ⟨rfl, rfl⟩, show ztkn s g - zpf (s 14 (3 * v + g)) + zpf 0 + 2 = ztkn s g + (zpf 0 - zpf (s 14 (3 * v + g)) + 2) by omega]
    · rw [if_neg (by rw [zrf_z q1.1]; exact e2), if_neg (fun z => e2 z.2), show ztkn s g - zpf (s 14 (3 * v + g)) + zpf 0 = ztkn s g + (zpf 0 - zpf (s 14 (3 * v + g)) + 0) by omega]
  · rw [if_neg (by rw [zE_0, zE_inj (by omega) (by omega) (by omega) (by omega)]; exact e), if_neg (fun z => e z.1), show ztkn s g - zpf (s 14 (3 * v + g)) + zpf sh = ztkn s g + (zpf sh - zpf (s 14 (3 * v + g)) + 0) by omega]

