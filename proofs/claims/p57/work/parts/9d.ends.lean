set_option maxRecDepth 16384
/-! A stop's ends: what the model remembers, the run's end, what counts. -/
def zre (s : zS) : Nat → zS
  | 0 => zup s 0 0 0
  | n + 1 => zup (zup (zup (zre s n) 15 n (s 12 n)) 16 n (s 13 n)) 17 n (s 14 n)
theorem zre_i {s : zS} {i : Int} (i0 : 0 ≤ i) : zre s (i + 1).toNat = zup (zup (zup (zre s i.toNat) 15 i (s 12 i)) 16 i (s 13 i)) 17 i (s 14 i) := by
  rw [show (i + 1).toNat = i.toNat + 1 by omega]
  show zup (zup (zup (zre s i.toNat) 15 (i.toNat : Int) (s 12 (i.toNat : Int))) 16 (i.toNat : Int) (s 13 (i.toNat : Int))) 17 (i.toNat : Int) (s 14 (i.toNat : Int)) = _
  rw [Int.toNat_of_nonneg i0]
theorem zre_j {s : zS} : ∀ n : Nat, (∀ j, j ≠ 0 → j ≠ 15 → j ≠ 16 → j ≠ 17 → zre s n j = s j) ∧ zre s n 0 0 = 0 ∧ ∀ u : Int, 0 ≤ u → u < n → zre s n 15 u = s 12 u ∧ zre s n 16 u = s 13 u ∧ zre s n 17 u = s 14 u
  | 0 => ⟨fun j h _ _ _ => by
      funext u
      exact zup_j h, zup_s, fun u u0 u1 => by omega⟩
  | n + 1 => by
    obtain ⟨p1, p2, p3⟩ := zre_j (s := s) n
    refine ⟨fun j h h1 h2 h3 => ?_, p2, fun u u0 u1 => ?_⟩
    · rw [← p1 j h h1 h2 h3]
      funext u
      exact (zup_j h3).trans ((zup_j h2).trans (zup_j h1))
    · show zup (zup (zup (zre s n) 15 n (s 12 n)) 16 n (s 13 n)) 17 n (s 14 n) 15 u = _ ∧ zup (zup (zup (zre s n) 15 n (s 12 n)) 16 n (s 13 n)) 17 n (s 14 n) 16 u = _ ∧ zup (zup (zup (zre s n) 15 n (s 12 n)) 16 n (s 13 n)) 17 n (s 14 n) 17 u = _
      by_cases c : u = n
      · subst c
        exact ⟨(zup_j (by decide)).trans ((zup_j (by decide)).trans zup_s), (zup_j (by decide)).trans zup_s, zup_s⟩
      · obtain ⟨q1, q2, q3⟩ := p3 u u0 (by omega)
        exact ⟨(zup_j (by decide)).trans ((zup_j (by decide)).trans ((zup_a c).trans q1)), (zup_j (by decide)).trans ((zup_a c).trans q2), (zup_a c).trans q3⟩
theorem zre_sc {s : zS} {n : Nat} : zsc s (zre s n) := (zre_j n).1
/-- the run's end -/
def zenS (t : zS) (a i : Int) : zS := if t 10 a ≠ 0 ∧ t 33 i = 1 ∧ t 3 (t 31 i) = t 3 a then zup (zup (zup (zup t 33 i 0) 34 i 0) 35 i (t 1 0)) 37 i 0 else t
def zen (t : zS) (r a e : Int) : Nat → zS
  | 0 => zup t 33 r e
  | n + 1 => zenS (zen t r a e n) a n
theorem zen_i {t : zS} {r a e i : Int} (i0 : 0 ≤ i) : zen t r a e (i + 1).toNat = zenS (zen t r a e i.toNat) a i := by
  rw [show (i + 1).toNat = i.toNat + 1 by omega]
  show zenS _ a (i.toNat : Int) = _
  rw [Int.toNat_of_nonneg i0]
theorem zWf_33 {t : zS} {r e : Int} (hW : zWf t) (r0 : 0 ≤ r) (r1 : r < t 30 0) (he : 1 < e ∧ e ≤ 4) : zWf (zup t 33 r e) := by
  obtain ⟨wA, wK, wC, wD, wP, wR, wZ, wT, wG, wE, wM, wX⟩ := hW
  refine ⟨wA, wK, wC, wD, wP, ⟨wR.1, wR.2.1, fun u u0 u1 => ?_⟩, wZ, wT, wG, wE, wM, wX.1, wX.2.1, wX.2.2.1, wX.2.2.2.1, wX.2.2.2.2.1, fun u u0 u1 => ?_, wX.2.2.2.2.2.2.1, fun u u' u0 u1 u2 u3 => ?_, wX.2.2.2.2.2.2.2.2⟩
  · obtain ⟨a1, a2, a3, a4, a5, a6⟩ := wR.2.2 u u0 u1
    refine ⟨a1, a2, ?_, a4, fun z => ?_, a6⟩
    · rw [zif_u]
      by_cases c : u = r
      · rw [if_pos c]; omega
      · rw [if_neg c]; exact a3
    · rw [zif_u] at z
      by_cases c : u = r
      · rw [if_pos c] at z; omega
      · rw [if_neg c] at z; exact a5 z
  · obtain ⟨a1, a2⟩ := wX.2.2.2.2.2.1 u u0 u1
    refine ⟨?_, a2⟩
    have u0 : t 30 0 ≤ u := u0
    rw [zif_u, if_neg (by omega)]
    exact a1
  · have q := wX.2.2.2.2.2.2.2.1 u u' u0 u1 u2 u3
    rw [zif_u, zif_u]
    by_cases c : u = r
    · rw [if_pos c]
      exact Or.inl he.1
    · rw [if_neg c]
      by_cases c' : u' = r
      · rw [if_pos c']
        exact Or.inr he.1
      · rw [if_neg c']
        exact q
theorem zenS_W {t : zS} {a i : Int} (hW : zWf t) (i0 : 0 ≤ i) (i1 : i < t 30 0) : zWf (zenS t a i) := by
  unfold zenS
  by_cases c : t 10 a ≠ 0 ∧ t 33 i = 1 ∧ t 3 (t 31 i) = t 3 a
  · rw [if_pos c]
    obtain ⟨wA, wK, wC, wD, wP, wR, wZ, wT, wG, wE, wM, wX⟩ := hW
    have h1 := wD.1
    have e33 : ∀ u, zup (zup (zup (zup t 33 i 0) 34 i 0) 35 i (t 1 0)) 37 i 0 33 u = if u = i then 0 else t 33 u := fun u => by
      show zup t 33 i 0 33 u = _
      exact zif_u
    have e34 : ∀ u, zup (zup (zup (zup t 33 i 0) 34 i 0) 35 i (t 1 0)) 37 i 0 34 u = if u = i then 0 else t 34 u := fun u => by
      show zup (zup t 33 i 0) 34 i 0 34 u = _
      exact zif_u
    have e35 : ∀ u, zup (zup (zup (zup t 33 i 0) 34 i 0) 35 i (t 1 0)) 37 i 0 35 u = if u = i then t 1 0 else t 35 u := fun u => by
      show zup (zup (zup t 33 i 0) 34 i 0) 35 i (t 1 0) 35 u = _
      exact zif_u
    have e37 : ∀ u, zup (zup (zup (zup t 33 i 0) 34 i 0) 35 i (t 1 0)) 37 i 0 37 u = if u = i then 0 else t 37 u := fun u => by
      show zup (zup (zup (zup t 33 i 0) 34 i 0) 35 i (t 1 0)) 37 i 0 37 u = _
      exact zif_u
    refine ⟨wA, wK, wC, wD, wP, ⟨wR.1, wR.2.1, fun u u0 u1 => ?_⟩, wZ, wT, wG, wE, wM, wX.1, wX.2.1, wX.2.2.1, wX.2.2.2.1, wX.2.2.2.2.1, fun u u0 u1 => ?_, wX.2.2.2.2.2.2.1, fun u u' u0 u1 u2 u3 => ?_, wX.2.2.2.2.2.2.2.2⟩
    · obtain ⟨a1, a2, a3, a4, a5, a6, a7, a8, a9⟩ := wR.2.2 u u0 u1
      rw [e33, e34, e35, e37]
      by_cases d : u = i
      · rw [if_pos d, if_pos d, if_pos d, if_pos d]
        have a5' := a5 (by rw [d]; omega)
        refine ⟨a1, a2, by omega, ⟨by omega, ?_⟩, fun _ => ?_, ⟨by omega, Int.le_refl _⟩, a7, by omega, a9⟩
        · show 0 ≤ t 26 (t 32 u)
          omega
        · show 0 < t 26 (t 32 u)
          omega
      · rw [if_neg d, if_neg d, if_neg d, if_neg d]
        exact ⟨a1, a2, a3, a4, a5, a6, a7, a8, a9⟩
    · have u0 : t 30 0 ≤ u := u0
      obtain ⟨a1, a2, a3, a4, a5⟩ := wX.2.2.2.2.2.1 u u0 u1
      rw [e33, e34, e37, if_neg (by omega), if_neg (by omega), if_neg (by omega)]
      exact ⟨a1, a2, a3, a4, a5⟩
    · have q := wX.2.2.2.2.2.2.2.1 u u' u0 u1 u2 u3
      rw [e33, e33]
      by_cases d : u = i
      · rw [if_pos d, if_neg (by omega)]
        rw [d] at q
        omega
      · rw [if_neg d]
        by_cases d' : u' = i
        · rw [if_pos d']
          rw [d'] at q
          omega
        · rw [if_neg d']
          exact q
  · rw [if_neg c]
    exact hW
theorem zenS_j {t : zS} {a i : Int} {j : Nat} (h : j ≠ 33) (h1 : j ≠ 34) (h2 : j ≠ 35) (h3 : j ≠ 37) : zenS t a i j = t j := by
  unfold zenS
  by_cases c : t 10 a ≠ 0 ∧ t 33 i = 1 ∧ t 3 (t 31 i) = t 3 a
  · rw [if_pos c]
    funext u
    exact (zup_j h3).trans ((zup_j h2).trans ((zup_j h1).trans (zup_j h)))
  · rw [if_neg c]
theorem zen_j {t : zS} {r a e : Int} {j : Nat} (h : j ≠ 33) (h1 : j ≠ 34) (h2 : j ≠ 35) (h3 : j ≠ 37) : ∀ n : Nat, zen t r a e n j = t j
  | 0 => by
    funext u
    exact zup_j h
  | n + 1 => (zenS_j h h1 h2 h3).trans (zen_j h h1 h2 h3 n)
theorem zen_W' {t : zS} {r a e : Int} (h0 : zWf (zup t 33 r e)) : ∀ n : Nat, n ≤ t 30 0 → zWf (zen t r a e n)
  | 0, _ => h0
  | n + 1, hn => zenS_W (zen_W' h0 n (by omega)) (by omega) (by rw [zen_j (by decide) (by decide) (by decide) (by decide)]; omega)
theorem zen_W {t : zS} {r a e : Int} (hW : zWf t) (r0 : 0 ≤ r) (r1 : r < t 30 0) (he : 1 < e ∧ e ≤ 4) (n : Nat) (hn : n ≤ t 30 0) : zWf (zen t r a e n) := zen_W' (zWf_33 hW r0 r1 he) n hn
theorem zen_0 {t : zS} {r a e : Int} (h : t 10 a = 0) : ∀ n : Nat, zen t r a e n = zup t 33 r e
  | 0 => rfl
  | n + 1 => by
    show zenS (zen t r a e n) a n = _
    rw [zen_0 h n]
    unfold zenS
    exact if_neg fun z => z.1 h
/-- .. the class -/
theorem zClM_5 {h : zH} {s0 t : zS} {i x : Int} {j f : Nat} (hC : zClM h s0 t) (i1 : i < t 30 0) (hz : ∀ {h : zH} {s : zS}, zCl h s → i < s 30 0 → zCl (zsi h 5 i.toNat j (zE x)) (zup s f i x)) (f1 : f ≠ 47) (f2 : f ≠ 12) (f3 : f ≠ 13) (f4 : f ≠ 14) : zClM (zsi h 5 i.toNat j (zE x)) s0 (zup t f i x) := by
  refine ⟨?_, fun k k0 k1 => ?_⟩
  · rw [zfl_si (by omega), zmid_u f1 f2 f3]
    exact hz hC.1 (by rw [zmid_j (by decide)]; exact i1)
  · have e : zoth3 s0 (zup t f i x) k = zoth3 s0 t k := by
      unfold zoth3 zoth2
      rw [zup_j (Ne.symm f2), zup_j (Ne.symm f3), zup_j (Ne.symm f4)]
    rw [e]
    exact hC.2 k k0 k1
theorem zc59' {h : zH} {s0 t : zS} {r a e : Int} (hC : zClM h s0 t) (W0 : zWf (zup t 33 r e)) (r0 : 0 ≤ r) (r1 : r < t 30 0) (ha : t 31 r = a) : ∃ h', zm59 (some (12, 0)) (some (5, r.toNat)) (zE e) h = some (.inl (), h') ∧ zClM h' s0 (zen t r a e (t 30 0).toNat) ∧ zfrC h h' := by
  have h20 : 0 ≤ t 30 0 ∧ t 30 0 ≤ 20 := W0.2.2.2.2.2.1.1
  have wA : zWa t := W0.1
  have hn := wA.1
  have a0 : 0 ≤ t 31 r ∧ t 31 r < t 2 0 := (W0.2.2.2.2.2.1.2.2 r r0 r1).1
  rw [ha] at a0
  have cC : zfrC h (zsi h 5 r.toNat 2 (zE e)) := zfrC_i (by unfold zpc1; decide)
  have hC1 : zClM (zsi h 5 r.toNat 2 (zE e)) s0 (zup t 33 r e) := zClM_5 hC r1 (fun z z' => zw_5_2 z r0 z') (by decide) (by decide) (by decide) (by decide)
  have cA1 : zCA (zsi h 5 r.toNat 2 (zE e)) (zup t 33 r e) := hC1.1.2.2.1
  have cR1 : zCR (zsi h 5 r.toNat 2 (zE e)) (zup t 33 r e) := hC1.1.2.2.2.2.1
  have eA : zr (zsi h 5 r.toNat 2 (zE e)) 5 r.toNat 0 = some (0, a.toNat) := by
    have := zCrA cR1 r0 r1
    rwa [show zup t 33 r e 31 r = a from ha] at this
  have e8 : zi (zsi h 5 r.toNat 2 (zE e)) 0 a.toNat 8 = zE (t 10 a) := zCa8 cA1 a0.1 a0.2
  have hA := wA.2 a a0.1 a0.2
  by_cases c1 : t 10 a = 0
  · refine ⟨_, ?_, by rw [zen_0 c1]; exact hC1, cC⟩
    rw [zm59, zo_5, zlet_s, eA, zo_0, e8, c1, zE_0, if_pos rfl]
  · rw [zm59, zo_5, zlet_s, eA, zo_0, e8, zE_0, if_neg (by rw [zE_inj (by omega) (by omega) (by omega) (by omega)]; exact c1)]
    refine zloop0 (W := fun n i hx => zm59_10 n (some (12, 0)) (some (5, r.toNat)) (zE i) hx) (N := t 30 0) (fun i hx => zClM hx s0 (zen t r a e i.toNat) ∧ zfrC h hx) (fun q => ∃ h', q = some (.inl (), h') ∧ zClM h' s0 (zen t r a e (t 30 0).toNat) ∧ zfrC h h') _ ⟨hC1, cC⟩ (by omega) (by omega) ?_ ?_
    · intro n hx ⟨q1, q2⟩
      have cr : zCr hx := q1.1.1
      have cR : zCR hx (zen t r a e (t 30 0).toNat) := q1.1.2.2.2.2.1
      refine ⟨hx, ?_, q1, q2⟩
      rw [zm59_10, zo_12, zLRz cr cR, zen_j (by decide) (by decide) (by decide) (by decide), if_pos (Int32.le_refl _)]
    · intro n i hx i0 i1 ⟨q1, q2⟩
      have xW := zen_W' (a := a) W0 i.toNat (by omega)
      have xj : ∀ j, j ≠ 33 ∧ j ≠ 34 ∧ j ≠ 35 ∧ j ≠ 37 → zen t r a e i.toNat j = t j := fun j z => zen_j z.1 z.2.1 z.2.2.1 z.2.2.2 _
      have x30 := xj 30 (by decide)
      have x2 := xj 2 (by decide)
      have x3 := xj 3 (by decide)
      have x31 := xj 31 (by decide)
      have x10 := xj 10 (by decide)
      have x1 := xj 1 (by decide)
      have cr : zCr hx := q1.1.1
      have cs : zCs hx (zen t r a e i.toNat) := q1.1.2.1
      have cA : zCA hx (zen t r a e i.toNat) := q1.1.2.2.1
      have cR : zCR hx (zen t r a e i.toNat) := q1.1.2.2.2.2.1
      have i2 : i < zen t r a e i.toNat 30 0 := by rw [x30]; exact i1
      have r2 : r < zen t r a e i.toNat 30 0 := by rw [x30]; exact r1
      have b0 : 0 ≤ t 31 i ∧ t 31 i < t 2 0 := (W0.2.2.2.2.2.1.2.2 i i0 i1).1
      have c33 := (xW.2.2.2.2.2.1.2.2 i i0 i2).2.2.1
      have hB := (wA.2 (t 31 i) b0.1 b0.2).1
      have n3 : ¬ zE (t 30 0) ≤ zE i := by rw [zE_le (by omega) (by omega) (by omega) (by omega)]; omega
      have g1 : zr hx 5 i.toNat 0 = some (0, (t 31 i).toNat) := by
        have := zCrA cR i0 i2
        rwa [x31] at this
      have g2 : zr hx 5 r.toNat 0 = some (0, a.toNat) := by
        have := zCrA cR r0 r2
        rwa [x31, ha] at this
      have g3 : zi hx 0 (t 31 i).toNat 1 = zE (t 3 (t 31 i)) := by
        have := zCa1 cA b0.1 (by rw [x2]; exact b0.2)
        rwa [x3] at this
      have g4 : zi hx 0 a.toNat 1 = zE (t 3 a) := by
        have := zCa1 cA a0.1 (by rw [x2]; exact a0.2)
        rwa [x3] at this
      have g5 : zi hx 12 0 11 = zE (t 1 0) := by
        have := zCs11 cs
        rwa [x1] at this
      have g6 := zCr2_ cR i0 i2
      refine Or.inr ?_
      show ∃ x', (zClM x' s0 (zen t r a e (i + 1).toNat) ∧ zfrC h x') ∧ zm59_10 (n + 1) (some (12, 0)) (some (5, r.toNat)) (zE i) hx = zm59_10 n (some (12, 0)) (some (5, r.toNat)) (zE (i + 1)) x'
      have stay : ¬ (t 10 a ≠ 0 ∧ zen t r a e i.toNat 33 i = 1 ∧ t 3 (t 31 i) = t 3 a) → zm59_10 (n + 1) (some (12, 0)) (some (5, r.toNat)) (zE i) hx = zm59_10 n (some (12, 0)) (some (5, r.toNat)) (zE (i + 1)) hx → ∃ x', (zClM x' s0 (zen t r a e (i + 1).toNat) ∧ zfrC h x') ∧ zm59_10 (n + 1) (some (12, 0)) (some (5, r.toNat)) (zE i) hx = zm59_10 n (some (12, 0)) (some (5, r.toNat)) (zE (i + 1)) x' := fun z z' => by
        refine ⟨hx, ⟨?_, q2⟩, z'⟩
        rw [zen_i i0]
        unfold zenS
        rw [x10, x3, x31, if_neg z]
        exact q1
      by_cases c2 : zen t r a e i.toNat 33 i = 1
      · by_cases c3 : t 3 (t 31 i) = t 3 a
        · have hN1 := zClM_5 q1 i2 (j := 2) (f := 33) (x := 0) (fun z z' => zw_5_2 z i0 z') (by decide) (by decide) (by decide) (by decide)
          have hN2 := zClM_5 hN1 i2 (j := 3) (f := 34) (x := 0) (fun z z' => zw_5_3 z i0 z') (by decide) (by decide) (by decide) (by decide)
          have hN3 := zClM_5 hN2 i2 (j := 4) (f := 35) (x := t 1 0) (fun z z' => zw_5_4 z i0 z') (by decide) (by decide) (by decide) (by decide)
          have hN4 := zClM_5 hN3 i2 (j := 8) (f := 37) (x := 0) (fun z z' => zw_5_8 z i0 z') (by decide) (by decide) (by decide) (by decide)
          have ez : zen t r a e (i + 1).toNat = zup (zup (zup (zup (zen t r a e i.toNat) 33 i 0) 34 i 0) 35 i (t 1 0)) 37 i 0 := by
            rw [zen_i i0]
            unfold zenS
            rw [x10, x3, x31, x1, if_pos ⟨c1, c2, c3⟩]
          have hN := hN4
          rw [← ez] at hN
          refine ⟨_, ⟨hN, q2.tr ((zfrC_i (by unfold zpc1; decide)).tr ((zfrC_i (by unfold zpc1; decide)).tr ((zfrC_i (by unfold zpc1; decide)).tr (zfrC_i (by unfold zpc1; decide)))))⟩, ?_⟩
          · rw [zm59_10, zo_12, zLRz cr cR, x30, if_neg n3, zLRg cr cR (by rw [x30]; omega) i0 i2, zo_5, g6, c2, zE_1, if_pos rfl, g1, zo_0, zo_5, g2, zo_0, g3, g4, if_pos (by rw [c3]), zlet_s, show zi (zsi hx 5 i.toNat 2 (0 : Int32)) 12 0 11 = zE (t 1 0) from g5, zm11, zo_5, zlet_s, zlet_s, zlet_s, zb_s, zm59_40, zlet_s, zE_1, zE_add, zE_0]
        · refine stay (fun z => c3 z.2.2) ?_
          rw [zm59_10, zo_12, zLRz cr cR, x30, if_neg n3, zLRg cr cR (by rw [x30]; omega) i0 i2, zo_5, g6, c2, zE_1, if_pos rfl, g1, zo_0, zo_5, g2, zo_0, g3, g4, if_neg (by rw [zE_inj (by omega) (by omega) (by omega) (by omega)]; exact c3), zm59_40, zlet_s, zE_1, zE_add]
      · refine stay (fun z => c2 z.2.1) ?_
        rw [zm59_10, zo_12, zLRz cr cR, x30, if_neg n3, zLRg cr cR (by rw [x30]; omega) i0 i2, zo_5, g6, zE_1, if_neg (by rw [zE_inj (by omega) (by omega) (by omega) (by omega)]; exact c2), zm59_40, zlet_s, zE_1, zE_add]
theorem zc59 {h : zH} {s0 t : zS} {r a e : Int} (hC : zClM h s0 t) (hW : zWf t) (r0 : 0 ≤ r) (r1 : r < t 30 0) (ha : t 31 r = a) (he : 1 < e ∧ e ≤ 4) : ∃ h', zm59 (some (12, 0)) (some (5, r.toNat)) (zE e) h = some (.inl (), h') ∧ zClM h' s0 (zen t r a e (t 30 0).toNat) ∧ zfrC h h' := zc59' hC (zWf_33 hW r0 r1 he) r0 r1 ha

