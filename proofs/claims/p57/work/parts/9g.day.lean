set_option maxRecDepth 16384
/-! A day: its data in every vertical; the trains that leave. -/
theorem zc73_30 {h : zH} {t : zS} {x1 x2 x3 : Int32} {k : zq → Int32 → Int32 → Int32 → zH → zRs Int32} (hC : zCl h t) (hA : zWa t) (hK : zWk t) (hD : ∀ v, 0 ≤ v → v < 4 → (0 ≤ t 22 v ∧ t 22 v ≤ 7) ∧ -1 ≤ t 23 v ∧ t 23 v ≤ 7) (hB : ∀ x, 0 ≤ x → x < 32 → 0 ≤ t 20 x ∧ t 20 x ≤ 300000) (hE : ∀ v, 0 ≤ v → v < 4 → 0 ≤ t 24 v) :
    ∃ h', zm73_30 k zN0 (some (12, 0)) x1 x2 x3 (zE 0) h = k (some (12, 0)) x1 x2 x3 h' ∧ zCl h' (zdx t 4) ∧ zfrC h h' := by
  refine zloop0 (W := fun n i hx => zm73_30 k n (some (12, 0)) x1 x2 x3 (zE i) hx) (N := 4) (fun i hx => zCl hx (zdx t i.toNat) ∧ zfrC h hx) (fun q => ∃ h', q = k (some (12, 0)) x1 x2 x3 h' ∧ zCl h' (zdx t 4) ∧ zfrC h h') h ⟨hC, zfrC.rf⟩ (by omega) (by omega) ?_ ?_
  · intro n hx ⟨q1, q2⟩
    refine ⟨hx, ?_, q1, q2⟩
    rw [zm73_30, if_pos (by rw [zE_4]; exact Int32.le_refl _)]
  · intro n i hx i0 i1 ⟨q1, q2⟩
    have b := zdb_x hA hK hD (fun x x0 x1 => (hB x x0 x1).1) hE i.toNat (by omega)
    rw [Int.toNat_of_nonneg i0] at b
    have n3 : ¬ (4 : Int32) ≤ zE i := by rw [zE_4, zE_le (by omega) (by omega) (by omega) (by omega)]; omega
    have cr : zCr hx := q1.1
    have cV : zCV hx (zdx t i.toNat) := q1.2.2.2.2.2.2.2.2.1
    obtain ⟨h', e1, e2, e3⟩ := zc26 q1 b hA hK (hD i i0 i1) (fun x x0 x1 => (hB x x0 x1).2) i0 i1
    refine Or.inr ?_
    show ∃ x', (zCl x' (zdx t (i + 1).toNat) ∧ zfrC h x') ∧ zm73_30 k (n + 1) (some (12, 0)) x1 x2 x3 (zE i) hx = zm73_30 k n (some (12, 0)) x1 x2 x3 (zE (i + 1)) x'
    rw [zdx_i i0, zm73_30, if_neg n3, zo_12, zLVa cr cV i0 i1, zo_9, e1, zb_s, zlet_s, zE_1, zE_add]
    exact ⟨h', ⟨e2, q2.tr e3⟩, rfl⟩
theorem zdx_W {s : zS} (hW : zWf s) (hd : s 1 0 < 20000) : zWf (zdx (zup s 1 0 (s 1 0 + 1)) 4) := by
  obtain ⟨wA, wK, wC, wD, wP, wR, wZ, wT, wG, wE, wM, wX⟩ := hW
  have p := zdb_x (t := zup s 1 0 (s 1 0 + 1)) wA wK (fun v v0 v1 => ⟨(wD.2.2 v v0 v1).2.1, (wD.2.2 v v0 v1).2.2.1⟩) (fun x x0 x1 => (wD.2.1 x x0 x1).1) (fun v v0 v1 => (wD.2.2 v v0 v1).2.2.2.1.1) 4 (Nat.le_refl _)
  generalize ht : zdx (zup s 1 0 (s 1 0 + 1)) 4 = t at *
  obtain ⟨p1, p2, p3⟩ := p
  have e : ∀ j, j ≠ 1 ∧ j ≠ 20 ∧ j ≠ 24 → t j = s j := fun j z => by
    rw [p1 j z.2.1 z.2.2]
    funext u
    exact zup_j z.1
  have e1 : t 1 0 = s 1 0 + 1 := by
    rw [p1 1 (by decide) (by decide)]
    exact zup_s
  refine ⟨?_, ?_, ?_, ?_, ?_, ?_, ?_, ?_, ?_, ?_, ?_, ?_⟩
  · unfold zWa at wA ⊢
    rw [e 2 (by decide), e 3 (by decide), e 4 (by decide), e 5 (by decide), e 6 (by decide), e 7 (by decide), e 8 (by decide), e 9 (by decide), e 10 (by decide), e 11 (by decide)]
    exact wA
  · unfold zWk at wK ⊢
    rw [e 2 (by decide), e 3 (by decide), e 12 (by decide), e 13 (by decide), e 14 (by decide)]
    exact wK
  · unfold zWc at wC ⊢
    rw [e 2 (by decide), e 3 (by decide), e 18 (by decide), e 19 (by decide)]
    exact wC
  · have w1 := wD.1
    refine ⟨by omega, fun x x0 x1 => ?_, fun v v0 v1 => ?_⟩
    · have q := p2 x x0 x1
      have q2 := wD.2.1 x x0 x1
      have q3 : zup s 1 0 (s 1 0 + 1) 20 x = s 20 x := rfl
      rw [q3, if_pos (by omega)] at q
      omega
    · have q := p3 v v0 v1
      have q2 := wD.2.2 v v0 v1
      have q3 : zup s 1 0 (s 1 0 + 1) 24 v = s 24 v := rfl
      rw [q3, if_pos (by omega)] at q
      rw [e 21 (by decide), e 22 (by decide), e 23 (by decide), e 50 (by decide)]
      exact ⟨q2.1, q2.2.1, q2.2.2.1, by omega, q2.2.2.2.2⟩
  · unfold zWp at wP ⊢
    rw [e 25 (by decide), e 26 (by decide), e 27 (by decide), e 28 (by decide), e 29 (by decide)]
    exact wP
  · unfold zWr at wR ⊢
    rw [e1, e 2 (by decide), e 3 (by decide), e 25 (by decide), e 26 (by decide), e 30 (by decide), e 31 (by decide), e 32 (by decide), e 33 (by decide), e 34 (by decide), e 35 (by decide), e 36 (by decide), e 37 (by decide), e 38 (by decide), e 39 (by decide), e 40 (by decide), e 41 (by decide), e 42 (by decide), e 58 (by decide)]
    refine ⟨wR.1, wR.2.1, fun r r0 r1 => ?_⟩
    obtain ⟨a1, a2, a3, a4, a5, a6, a7⟩ := wR.2.2 r r0 r1
    exact ⟨a1, a2, a3, a4, a5, by omega, a7⟩
  · unfold zWz at wZ ⊢
    rw [e 51 (by decide), e 52 (by decide), e 53 (by decide), e 54 (by decide), e 55 (by decide), e 56 (by decide), e 57 (by decide)]
    exact wZ
  · unfold zWt at wT ⊢
    rw [e 58 (by decide), e 59 (by decide), e 60 (by decide)]
    exact wT
  · unfold zWg at wG ⊢
    rw [e1, e 61 (by decide), e 62 (by decide), e 63 (by decide), e 64 (by decide), e 65 (by decide), e 66 (by decide), e 67 (by decide), e 68 (by decide), e 69 (by decide), e 70 (by decide)]
    refine ⟨fun f f0 f1 => ?_, wG.2⟩
    obtain ⟨a1, a2, a3, a4, a5⟩ := wG.1 f f0 f1
    exact ⟨a1, a2, a3, by omega, a5⟩
  · unfold zWe at wE ⊢
    rw [e 71 (by decide), e 72 (by decide), e 73 (by decide), e 74 (by decide), e 75 (by decide), e 76 (by decide), e 77 (by decide)]
    exact wE
  · unfold zWm at wM ⊢
    rw [e 46 (by decide), e 47 (by decide), e 48 (by decide), e 49 (by decide)]
    exact wM
  · unfold zWx zac zWn zWq at wX ⊢
    rw [e 43 (by decide), e 44 (by decide), e 62 (by decide), e 25 (by decide), e 26 (by decide), e 30 (by decide), e 33 (by decide), e 34 (by decide), e 36 (by decide), e 37 (by decide), e 38 (by decide), e 41 (by decide), e 71 (by decide), e 77 (by decide), e 31 (by decide), e 18 (by decide), e 19 (by decide)]
    exact wX
/-- a train leaves: run r -/
abbrev zlvp (t : zS) (r : Int) : Prop := t 33 r = 0 ∧ t 27 (zit t r) = 5
def zlvS (t : zS) (x r : Int) : zS := if t 40 r = x then zup (zup (zup t 40 r (-1)) 37 r (if zlvp t r then 1 else t 37 r)) 60 x (t 60 x + if zlvp t r then 1 else 0) else t
def zlvN (t : zS) (x : Int) : Nat → zS
  | 0 => t
  | n + 1 => zlvS (zlvN t x n) x n
def zlgS (t : zS) (x : Int) : zS := if t 59 x = t 1 0 then zlvN (zup t 60 x 0) x (t 30 0).toNat else t
def zlg0 (t : zS) : Nat → zS
  | 0 => t
  | n + 1 => zlgS (zlg0 t n) n
theorem zlvN_i {t : zS} {x i : Int} (i0 : 0 ≤ i) : zlvN t x (i + 1).toNat = zlvS (zlvN t x i.toNat) x i := by
  rw [show (i + 1).toNat = i.toNat + 1 by omega]
  show zlvS _ x (i.toNat : Int) = _
  rw [Int.toNat_of_nonneg i0]
theorem zlg0_i {t : zS} {i : Int} (i0 : 0 ≤ i) : zlg0 t (i + 1).toNat = zlgS (zlg0 t i.toNat) i := by
  rw [show (i + 1).toNat = i.toNat + 1 by omega]
  show zlgS _ (i.toNat : Int) = _
  rw [Int.toNat_of_nonneg i0]
theorem zlvS_j {t : zS} {x r : Int} {j : Nat} (h : j ≠ 40) (h1 : j ≠ 37) (h2 : j ≠ 60) : zlvS t x r j = t j := by
  unfold zlvS
  by_cases c : t 40 r = x
  · rw [if_pos c]
    funext u
    exact (zup_j h2).trans ((zup_j h1).trans (zup_j h))
  · rw [if_neg c]
theorem zlvN_j {t : zS} {x : Int} {j : Nat} (h : j ≠ 40) (h1 : j ≠ 37) (h2 : j ≠ 60) : ∀ n : Nat, zlvN t x n j = t j
  | 0 => rfl
  | n + 1 => (zlvS_j h h1 h2).trans (zlvN_j h h1 h2 n)
theorem zlgS_j {t : zS} {x : Int} {j : Nat} (h : j ≠ 40) (h1 : j ≠ 37) (h2 : j ≠ 60) : zlgS t x j = t j := by
  unfold zlgS
  by_cases c : t 59 x = t 1 0
  · rw [if_pos c, zlvN_j h h1 h2]
    funext u
    exact zup_j h2
  · rw [if_neg c]
theorem zlg0_j {t : zS} {j : Nat} (h : j ≠ 40) (h1 : j ≠ 37) (h2 : j ≠ 60) : ∀ n : Nat, zlg0 t n j = t j
  | 0 => rfl
  | n + 1 => (zlgS_j h h1 h2).trans (zlg0_j h h1 h2 n)
theorem zWf_60 {t : zS} {x w : Int} (hW : zWf t) (hw : -1 ≤ w ∧ w ≤ 20) : zWf (zup t 60 x w) := by
  obtain ⟨wA, wK, wC, wD, wP, wR, wZ, wT, wG, wE, wM, wX⟩ := hW
  refine ⟨wA, wK, wC, wD, wP, wR, wZ, ⟨wT.1, fun u u0 u1 => ?_⟩, wG, wE, wM, wX⟩
  obtain ⟨a1, a2⟩ := wT.2 u u0 u1
  refine ⟨a1, ?_⟩
  rw [zif_u]
  by_cases c : u = x
  · rw [if_pos c]; exact hw
  · rw [if_neg c]; exact a2
theorem zlvS_W {t : zS} {x i : Int} (hW : zWf t) (i0 : 0 ≤ i) (i1 : i < t 30 0) (x0 : 0 ≤ x) (x1 : x < t 58 0) (h60 : 0 ≤ t 60 x ∧ t 60 x ≤ i) : zWf (zlvS t x i) ∧ 0 ≤ zlvS t x i 60 x ∧ zlvS t x i 60 x ≤ i + 1 := by
  have h20 := hW.2.2.2.2.2.1.1
  unfold zlvS
  by_cases c : t 40 i = x
  · rw [if_pos c]
    have hp : 0 ≤ (if zlvp t i then (1 : Int) else 0) ∧ (if zlvp t i then (1 : Int) else 0) ≤ 1 := by
      by_cases d : zlvp t i
      · rw [if_pos d]; omega
      · rw [if_neg d]; omega
    refine ⟨zWf_60 ?_ (by omega), ?_⟩
    · obtain ⟨wA, wK, wC, wD, wP, wR, wZ, wT, wG, wE, wM, wX⟩ := hW
      have e40 : ∀ u v, zup (zup t 40 i (-1)) 37 i v 40 u = if u = i then -1 else t 40 u := fun u v => by
        show zup t 40 i (-1) 40 u = _
        exact zif_u
      have e37 : ∀ u v, zup (zup t 40 i (-1)) 37 i v 37 u = if u = i then v else t 37 u := fun u v => by
        rw [zif_u]
        rfl
      refine ⟨wA, wK, wC, wD, wP, ⟨wR.1, wR.2.1, fun u u0 u1 => ?_⟩, wZ, wT, wG, wE, wM, wX.1, wX.2.1, wX.2.2.1, wX.2.2.2.1, wX.2.2.2.2.1, fun u u0 u1 => ?_, wX.2.2.2.2.2.2⟩
      · obtain ⟨a1, a2, a3, a4, a5, a6, a7, a8, a9, a10, a11⟩ := wR.2.2 u u0 u1
        refine ⟨a1, a2, a3, a4, a5, a6, a7, ?_, a9, ?_, a11⟩
        · rw [e37]
          by_cases d : u = i
          · rw [if_pos d, ← d]
            by_cases f : zlvp t u
            · rw [if_pos f]; omega
            · rw [if_neg f]; exact a8
          · rw [if_neg d]; exact a8
        · rw [e40]
          by_cases d : u = i
          · rw [if_pos d]
            have : 0 ≤ t 58 0 := wT.1.1
            show -1 ≤ (-1 : Int) ∧ -1 < t 58 0
            omega
          · rw [if_neg d]; exact a10
      · have u0 : t 30 0 ≤ u := u0
        obtain ⟨a1, a2, a3, a4, a5⟩ := wX.2.2.2.2.2.1 u u0 u1
        have ne : ¬ u = i := by omega
        rw [e37, if_neg ne]
        exact ⟨a1, a2, a3, a4, a5⟩
    · rw [zup_s]
      omega
  · rw [if_neg c]
    exact ⟨hW, by omega⟩
theorem zlvN_W {t : zS} {x : Int} (hW : zWf t) (x0 : 0 ≤ x) (x1 : x < t 58 0) (h0 : t 60 x = 0) : ∀ n : Nat, n ≤ t 30 0 → zWf (zlvN t x n) ∧ 0 ≤ zlvN t x n 60 x ∧ zlvN t x n 60 x ≤ n
  | 0, _ => ⟨hW, by
      show 0 ≤ t 60 x ∧ t 60 x ≤ ((0 : Nat) : Int)
      omega⟩
  | n + 1, hn => by
    obtain ⟨p1, p2⟩ := zlvN_W hW x0 x1 h0 n (by omega)
    exact zlvS_W p1 (by omega) (by rw [zlvN_j (by decide) (by decide) (by decide)]; omega) x0 (by rw [zlvN_j (by decide) (by decide) (by decide)]; exact x1) p2
theorem zlgS_W {t : zS} {x : Int} (hW : zWf t) (x0 : 0 ≤ x) (x1 : x < t 58 0) : zWf (zlgS t x) := by
  have h20 := hW.2.2.2.2.2.1.1
  unfold zlgS
  by_cases c : t 59 x = t 1 0
  · rw [if_pos c]
    exact (zlvN_W (t := zup t 60 x 0) (zWf_60 hW (by omega)) x0 x1 zup_s _ (by show ((t 30 0).toNat : Int) ≤ t 30 0; omega)).1
  · rw [if_neg c]
    exact hW
theorem zlg0_W {t : zS} (hW : zWf t) : ∀ n : Nat, n ≤ t 58 0 → zWf (zlg0 t n)
  | 0, _ => hW
  | n + 1, hn => zlgS_W (zlg0_W hW n (by omega)) (by omega) (by rw [zlg0_j (by decide) (by decide) (by decide)]; omega)
/-- the class -/
theorem zc74 {h : zH} {t : zS} (hC : zCl h t) (hW : zWf t) : ∃ h', zm74 (some (12, 0)) h = some (.inl (), h') ∧ zCl h' (zlg0 t (t 58 0).toNat) ∧ zfrC h h' := by
  have h6 := hW.2.2.2.2.2.2.2.1.1
  have cr : zCr h := hC.1
  have cT := hC.2.2.2.2.2.2.1
  have e0 : (t 58 0).toNat = 0 := by omega
  refine ⟨h, ?_, by rw [e0]; exact hC, zfrC.rf⟩
  rw [zm74, zo_12, zLTz cr cT, zE_0, if_pos (by rw [zE_le (by omega) (by omega) (by omega) (by omega)]; omega)]
