set_option maxRecDepth 16384
/-! A run takes a spot. -/
theorem zClM_s {h : zH} {s0 s0' t : zS} (hC : zClM h s0 t) (e12 : s0 12 = s0' 12) (e13 : s0 13 = s0' 13) (e14 : s0 14 = s0' 14) : zClM h s0' t := by
  have o2 : zoth2 s0 t = zoth2 s0' t := by
    funext k
    unfold zoth2
    rw [e12, e13]
  have o3 : zoth3 s0 t = zoth3 s0' t := by
    funext k
    unfold zoth3
    rw [o2, e14]
  have em : zmid s0 t = zmid s0' t := by
    funext j a
    unfold zmid
    rw [o2]
  obtain ⟨p1, p2⟩ := hC
  rw [em] at p1
  rw [o3] at p2
  exact ⟨p1, p2⟩
/-- what was there before is told -/
theorem zw_bk {h : zH} {s : zS} {r g w : Int} (hC : zCl h s) (r0 : 0 ≤ r) (r1 : r < s 30 0) (g0 : 0 ≤ g) (g1 : g < 3) : zCl (zsr (zsi h 25 r.toNat g.toNat (zE 1)) 26 r.toNat g.toNat (zrf 0 w)) (zup (zup s 41 (3 * r + g) 1) 42 (3 * r + g) w) := by
  obtain ⟨c1, c2, c3, c4, c5, c6, c7, c8, c9, c10, c11, c12, c13, c14⟩ := hC
  refine ⟨c1, c2, c3, c4, ⟨c5.1, fun u u0 u1 => ?_⟩, c6, c7, c8, c9, c10, c11, c12, zCM_w c13 ((zKp_i (by decide)).tr (zKp_r (by decide))) rfl rfl rfl rfl, c14⟩
  obtain ⟨p0, p1, p2, p3, p4, p5, p6, p7, p8, p9, p10, p11, p12, p13, p14, p15⟩ := c5.2 u u0 u1
  have e41 : ∀ i, zup (zup s 41 (3 * r + g) 1) 42 (3 * r + g) w 41 i = if i = 3 * r + g then 1 else s 41 i := fun i => by
    show zup s 41 (3 * r + g) 1 41 i = _
    exact zif_u
  have e42 : ∀ i, zup (zup s 41 (3 * r + g) 1) 42 (3 * r + g) w 42 i = if i = 3 * r + g then w else s 42 i := fun i => zif_u
  refine ⟨p0, p1, p2, p3, p4, p5, p6, p7, p8, p9, p10, p11, p12, p13, fun i i0 i1 => ?_, fun i i0 i1 z => ?_⟩
  · rw [e41]
    show zi (zsi h 25 r.toNat g.toNat (zE 1)) 25 u.toNat i.toNat = _
    by_cases e : 3 * u + i = 3 * r + g
    · rw [if_pos e, show u = r by omega, show i = g by omega]
      exact zi_s
    · rw [if_neg e, ← p14 i i0 i1]
      by_cases d : u = r
      · exact zi_j (by omega)
      · exact zi_i (by omega)
  · rw [e41] at z
    rw [e42]
    by_cases e : 3 * u + i = 3 * r + g
    · rw [if_pos e, show u = r by omega, show i = g by omega]
      exact zr_s
    · rw [if_neg e] at z
      rw [if_neg e, ← p15 i i0 i1 z]
      by_cases d : u = r
      · exact zr_j (by omega)
      · exact zr_i (by omega)
theorem zwM_bk {h : zH} {s0 t : zS} {r g w : Int} (hC : zClM h s0 t) (r0 : 0 ≤ r) (r1 : r < t 30 0) (g0 : 0 ≤ g) (g1 : g < 3) : zClM (zsr (zsi h 25 r.toNat g.toNat (zE 1)) 26 r.toNat g.toNat (zrf 0 w)) s0 (zup (zup t 41 (3 * r + g) 1) 42 (3 * r + g) w) := by
  refine ⟨?_, fun k k0 k1 => ?_⟩
  · rw [zfl_sr, zfl_si (by omega), zmid_u (by decide) (by decide) (by decide), zmid_u (by decide) (by decide) (by decide)]
    exact zw_bk hC.1 r0 (by rw [zmid_j (by decide)]; exact r1) g0 g1
  · exact hC.2 k k0 k1
theorem zWf_331 {t : zS} {x : Int} (hW : zWf t) (x0 : 0 ≤ x) (x1 : x < t 30 0) (hx : ¬ 1 < t 33 x) : zWf (zup t 33 x 1) := by
  obtain ⟨wA, wK, wC, wD, wP, wR, wZ, wT, wG, wE, wM, wX⟩ := hW
  refine ⟨wA, wK, wC, wD, wP, ⟨wR.1, wR.2.1, fun u u0 u1 => ?_⟩, wZ, wT, wG, wE, wM, wX.1, wX.2.1, wX.2.2.1, wX.2.2.2.1, wX.2.2.2.2.1, fun u u0 u1 => ?_, wX.2.2.2.2.2.2.1, fun u u' u0 u1 u2 u3 => ?_, wX.2.2.2.2.2.2.2.2⟩
  · obtain ⟨a1, a2, a3, a4, a5, a6⟩ := wR.2.2 u u0 u1
    refine ⟨a1, a2, ?_, a4, fun z => ?_, a6⟩
    · rw [zif_u]
      by_cases c : u = x
      · rw [if_pos c]; omega
      · rw [if_neg c]; exact a3
    · rw [zif_u] at z
      by_cases c : u = x
      · exact a5 (by rw [c]; omega)
      · rw [if_neg c] at z; exact a5 z
  · obtain ⟨a1, a2⟩ := wX.2.2.2.2.2.1 u u0 u1
    refine ⟨?_, a2⟩
    have u0 : t 30 0 ≤ u := u0
    have ne : ¬ u = x := by omega
    rw [zif_u, if_neg ne]
    exact a1
  · have q := wX.2.2.2.2.2.2.2.1 u u' u0 u1 u2 u3
    rw [zif_u, zif_u]
    by_cases c : u = x
    · have ne : ¬ u' = x := by omega
      rw [if_pos c, if_neg ne]
      rw [c] at q
      omega
    · rw [if_neg c]
      by_cases c' : u' = x
      · rw [if_pos c']
        rw [c'] at q
        omega
      · rw [if_neg c']
        exact q
theorem zWf_bk {t : zS} {r g w : Int} (hW : zWf t) (r0 : 0 ≤ r) (r1 : r < t 30 0) (g0 : 0 ≤ g) (g1 : g < 3) (hw : -1 ≤ w ∧ w < t 2 0 ∧ w ≠ t 31 r ∧ (w ≠ -1 → t 3 w = t 3 (t 31 r))) : zWf (zup (zup t 41 (3 * r + g) 1) 42 (3 * r + g) w) := by
  obtain ⟨wA, wK, wC, wD, wP, wR, wZ, wT, wG, wE, wM, wX⟩ := hW
  have e41 : ∀ i, zup (zup t 41 (3 * r + g) 1) 42 (3 * r + g) w 41 i = if i = 3 * r + g then 1 else t 41 i := fun i => by
    show zup t 41 (3 * r + g) 1 41 i = _
    exact zif_u
  have e42 : ∀ i, zup (zup t 41 (3 * r + g) 1) 42 (3 * r + g) w 42 i = if i = 3 * r + g then w else t 42 i := fun i => zif_u
  refine ⟨wA, wK, wC, wD, wP, ⟨wR.1, wR.2.1, fun u u0 u1 => ?_⟩, wZ, wT, wG, wE, wM, wX.1, wX.2.1, wX.2.2.1, wX.2.2.2.1, wX.2.2.2.2.1, fun u u0 u1 => ?_, wX.2.2.2.2.2.2⟩
  · obtain ⟨a1, a2, a3, a4, a5, a6, a7, a8, a9, a10, a11⟩ := wR.2.2 u u0 u1
    refine ⟨a1, a2, a3, a4, a5, a6, a7, a8, a9, a10, fun i i0 i1 => ?_⟩
    rw [e41, e42]
    by_cases e : 3 * u + i = 3 * r + g
    · rw [if_pos e, if_pos e, show u = r by omega]
      exact ⟨by omega, fun _ => hw⟩
    · rw [if_neg e, if_neg e]
      exact a11 i i0 i1
  · obtain ⟨a1, a2, a3, a4, a5, a6⟩ := wX.2.2.2.2.2.1 u u0 u1
    refine ⟨a1, a2, a3, a4, a5, fun i i0 i1 => ?_⟩
    have u0 : t 30 0 ≤ u := u0
    have ne : ¬ 3 * u + i = 3 * r + g := by omega
    rw [e41, if_neg ne]
    exact a6 i i0 i1
def ztkS (t : zS) (r g k a sh : Int) : zS := if sh = 0 then zstS' (zup (zup t 41 (3 * r + g) 1) 42 (3 * r + g) (t 12 k)) k a (-1) 0 else zstS' t k (t 12 k) a sh
/-- the class takes it -/
theorem zc79_26 {h : zH} {s t : zS} {r g k a v sh : Int} (hC : zClM h s t) (hK : zWk t) (r0 : 0 ≤ r) (r1 : r < t 30 0) (g0 : 0 ≤ g) (g1 : g < 3) (v0 : 0 ≤ v) (v1 : v < 4) (hk : k = 3 * v + g) (a0 : 0 ≤ a) (s0 : 0 ≤ sh ∧ sh ≤ 100) (e12 : t 12 = s 12) (na : s 12 k ≠ a) (hc : s 13 k = a → t 13 k = a ∧ t 14 k = s 14 k) :
    ∃ h', zm79_26 (some (5, r.toNat)) (zE g) (zE sh) (some (0, a.toNat)) (some (10, k.toNat)) h = some (.inl (), h') ∧ zClM h' s (ztkS t r g k a sh) ∧ zfrC h h' := by
  have k0 : 0 ≤ k := by omega
  have k1 : k < 12 := by omega
  have hq := hK k k0 k1
  have cR : zCR h t := hC.1.2.2.2.2.1
  have cK := hC.1.2.2.2.2.2.2.2.2.2.1
  have q0 : zr h 10 k.toNat 0 = zrf 0 (t 12 k) := by
    have := zCk0 cK k0 k1
    rwa [zmid_j (by decide)] at this
  unfold ztkS
  by_cases c : sh = 0
  · subst c
    have C1 := zwM_bk (w := t 12 k) hC r0 r1 g0 g1
    have F1 : zfrC h (zsr (zsi h 25 r.toNat g.toNat (zE 1)) 26 r.toNat g.toNat (zrf 0 (t 12 k))) := (zfrC_i (by unfold zpc1; decide)).tr ⟨zKp_r (fun z => z (by unfold zpc1; decide)), rfl, rfl⟩
    obtain ⟨h', b1, b2, b3, b4, b5⟩ := zc29 (k := k) (st := a) (cd := -1) (sh := 0) C1 k0 k1 hq.1.1 hq.2.1.1 hq.2.2.1 (by omega) (by omega) (by omega) (fun _ => Or.inl (fun z => na z.symm)) (fun _ => Or.inl (fun z => na z.symm))
    rw [zrf_n, zrf_s a0] at b1
    refine ⟨h', ?_, by rw [if_pos rfl]; exact b2, F1.tr ⟨b3, b4, b5⟩⟩
    have e9 := zCr9_ cR r0 r1
    have eL := zCrL0 cR r0 r1
    have e10 : zr (zsi h 25 r.toNat g.toNat (zE 1)) 5 r.toNat 10 = some (26, r.toNat) := zCr10_ cR r0 r1
    have eL1 : zln (zsi h 25 r.toNat g.toNat (zE 1)) 26 r.toNat = 3 := zCrL1 cR r0 r1
    have q0' : zr (zsi h 25 r.toNat g.toNat (zE 1)) 10 k.toNat 0 = zrf 0 (t 12 k) := q0
    have ew : ∀ f : Nat → Nat → Nat → zRs Unit, zaw (some (26, r.toNat)) (zrf 0 (t 12 k)) (zE g) (zsi h 25 r.toNat g.toNat (zE 1)) f = f 26 r.toNat g.toNat := fun f => by
      by_cases d : t 12 k = -1
      · rw [d, zrf_n]
        show zar 5 (some (26, r.toNat)) (zE g) (zsi h 25 r.toNat g.toNat (zE 1)) f = _
        exact zar_s rfl rfl eL1 g0 (by omega) (by omega)
      · rw [zrf_s (by omega)]
        show zas (some (26, r.toNat)) (some (0, (t 12 k).toNat)) (zE g) (zsi h 25 r.toNat g.toNat (zE 1)) (fun k i _ _ j => f k i j) = _
        exact zas_s rfl rfl rfl eL1 g0 (by omega) (by omega)
    rw [zm79_26, zE_0, if_pos (Int32.le_refl _), zo_5, zar_s e9 rfl eL g0 (by omega) (by omega), zE_1, zlet_s, zo_10, e10, q0', ew, zlet_s, b1, zb_s]
  · have n0 : ¬ zE sh ≤ 0 := by rw [zE_0, zE_le (by omega) (by omega) (by omega) (by omega)]; omega
    obtain ⟨h', b1, b2, b3, b4, b5⟩ := zc29 (k := k) (st := t 12 k) (cd := a) (sh := sh) hC k0 k1 hq.1.1 hq.2.1.1 hq.2.2.1 hq.1.1 (by omega) s0
      (fun z => Or.inr (fun y => by
        have := hc y.symm
        rcases z with z | z
        · exact z rfl
        · exact z this.1.symm))
      (fun z => by
        by_cases y : s 13 k = a
        · have := hc y
          rcases z with z | z | z
          · exact absurd rfl z
          · exact absurd this.1.symm z
          · exact Or.inr (Or.inr (by rw [← this.2]; exact z))
        · exact Or.inr (Or.inl (fun z => y z.symm)))
    rw [zrf_s a0] at b1
    refine ⟨h', ?_, by rw [if_neg c]; exact b2, ⟨b3, b4, b5⟩⟩
    rw [zm79_26, if_neg n0, zo_10, q0, b1, zb_s]
