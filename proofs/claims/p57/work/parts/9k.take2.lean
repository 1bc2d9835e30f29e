set_option maxRecDepth 16384
/-! A run takes a spot: the pair. -/
theorem ztkS_j {t : zS} {r g k a sh : Int} {j : Nat} (h1 : j ≠ 12) (h2 : j ≠ 13) (h3 : j ≠ 14) (h4 : j ≠ 41) (h5 : j ≠ 42) : ztkS t r g k a sh j = t j := by
  unfold ztkS
  by_cases c : sh = 0
  · rw [if_pos c]
    funext u
    exact (zup_j h3).trans ((zup_j h2).trans ((zup_j h1).trans ((zup_j h5).trans (zup_j h4))))
  · rw [if_neg c]
    funext u
    exact (zup_j h3).trans ((zup_j h2).trans (zup_j h1))
theorem ztkS_o {t : zS} {r g k a sh u : Int} (hu : u ≠ k) : ztkS t r g k a sh 12 u = t 12 u ∧ ztkS t r g k a sh 13 u = t 13 u ∧ ztkS t r g k a sh 14 u = t 14 u := by
  unfold ztkS
  by_cases c : sh = 0
  · rw [if_pos c]
    exact ⟨(zup_j (by decide)).trans ((zup_j (by decide)).trans (zup_a hu)), (zup_j (by decide)).trans (zup_a hu), zup_a hu⟩
  · rw [if_neg c]
    exact ⟨(zup_j (by decide)).trans ((zup_j (by decide)).trans (zup_a hu)), (zup_j (by decide)).trans (zup_a hu), zup_a hu⟩
theorem ztkS_W {t : zS} {r g sh : Int} (hW : zWf t) (r0 : 0 ≤ r) (r1 : r < t 30 0) (g0 : 0 ≤ g) (g1 : g < 3) (s0 : 0 ≤ sh ∧ sh ≤ 100) (na : t 12 (3 * t 3 (t 31 r) + g) ≠ t 31 r) : zWf (ztkS t r g (3 * t 3 (t 31 r) + g) (t 31 r) sh) := by
  have a0 := (hW.2.2.2.2.2.1.2.2 r r0 r1).1
  have v0 := (hW.1.2 _ a0.1 a0.2).1
  have hq := hW.2.1 (3 * t 3 (t 31 r) + g) (by omega) (by omega)
  have e3 : t 3 (t 31 r) = (3 * t 3 (t 31 r) + g) / 3 := by omega
  unfold ztkS
  by_cases c : sh = 0
  · rw [if_pos c]
    have W1 := zWf_bk (w := t 12 (3 * t 3 (t 31 r) + g)) hW r0 r1 g0 g1 ⟨hq.1.1, hq.1.2, na, fun z => by rw [hq.2.2.2.2.1 z]; omega⟩
    exact zWf_mw W1 (zmw.st ⟨fun _ _ _ _ => rfl, W1.2.1⟩ (zWk_st W1.2.1 ⟨by omega, a0.2⟩ ⟨by omega, by show -1 < t 2 0; omega⟩ (by omega) ⟨fun _ => rfl, fun _ => rfl⟩ (fun _ => e3) (fun z => absurd rfl z)))
  · rw [if_neg c]
    exact zWf_mw hW (zmw.st ⟨fun _ _ _ _ => rfl, hW.2.1⟩ (zWk_st hW.2.1 hq.1 ⟨by omega, a0.2⟩ s0 ⟨fun z => by omega, fun z => absurd z c⟩ hq.2.2.2.2.1 (fun _ => e3)))
theorem ztk_f {s t : zS} {r g sh v a : Int} (F : zfin s v t) (e12 : t 12 = s 12) (hW : zWf s) (r0 : 0 ≤ r) (r1 : r < s 30 0) (g0 : 0 ≤ g) (g1 : g < 3) (ha : s 31 r = a) (hv : s 3 a = v) (s0 : 0 ≤ sh ∧ sh ≤ 100) (na : s 12 (3 * v + g) ≠ a) : zfin s v (ztkS t r g (3 * v + g) a sh) := by
  obtain ⟨F1, F2, F3⟩ := F
  have e3 := F2 3 (by decide) (by decide) (by decide) (by decide) (by decide) (by decide) (by decide) (by decide) (by decide)
  have e30 := F2 30 (by decide) (by decide) (by decide) (by decide) (by decide) (by decide) (by decide) (by decide) (by decide)
  have e31 := F2 31 (by decide) (by decide) (by decide) (by decide) (by decide) (by decide) (by decide) (by decide) (by decide)
  have W := ztkS_W (t := t) (g := g) (sh := sh) F1 r0 (by rw [e30]; exact r1) g0 g1 s0 (by rw [e31, e3, ha, hv, e12]; exact na)
  rw [e31, e3, ha, hv] at W
  refine ⟨W, fun j j1 j2 j3 j4 j5 j6 j7 j8 j9 => (ztkS_j j1 j2 j3 j8 j9).trans (F2 j j1 j2 j3 j4 j5 j6 j7 j8 j9), fun u hu z => F3 u hu ?_⟩
  obtain ⟨o1, o2, o3⟩ := ztkS_o (t := t) (r := r) (g := g) (k := 3 * v + g) (a := a) (sh := sh) (u := u) (by omega)
  unfold zoth3 zoth2 at z ⊢
  rw [o1, o2, o3] at z
  exact z
theorem zrlI_x {s : zS} {a : Int} : ∃ x, zrlI s a x := by
  by_cases c : zxs 0 (s 30 0) (zrlP s a)
  · obtain ⟨x, x0, x1, x2⟩ := c
    exact ⟨x, Or.inr ⟨⟨x0, x1⟩, x2⟩⟩
  · exact ⟨-1, Or.inl ⟨rfl, c⟩⟩
noncomputable def ztkT (s : zS) (r g v a sh : Int) : zS := zits (s 13 (3 * v + g) = -1 ∨ s 13 (3 * v + g) = a ∨ zrlI s (s 13 (3 * v + g)) (-1)) (ztkS s r g (3 * v + g) a sh) (ztkS (zlos (zup s 33 (Classical.epsilon (zrlI s (s 13 (3 * v + g)))) 1) (s 13 (3 * v + g)) v 3) r g (3 * v + g) a sh)
theorem ztk_p {s : zS} {r g sh v a : Int} (hW : zWf s) (r0 : 0 ≤ r) (r1 : r < s 30 0) (g0 : 0 ≤ g) (g1 : g < 3) (s0 : 0 ≤ sh ∧ sh ≤ 100) (ha : s 31 r = a) (hv : s 3 a = v) (lt : s 12 (3 * v + g) < a) :
    ∃ t : zS, t = ztkT s r g v a sh ∧ zfin s v t ∧ t 33 r = s 33 r ∧ (∀ h, zClM h s s → ∃ h', zm79 (some (12, 0)) (some (5, r.toNat)) (zE g) (zE sh) h = some (.inl (), h') ∧ zClM h' s t ∧ zfrC h h') := by
  have h20 := hW.2.2.2.2.2.1.1
  have hn := hW.1.1
  have a0 := (hW.2.2.2.2.2.1.2.2 r r0 r1).1
  rw [ha] at a0
  have v0 := (hW.1.2 _ a0.1 a0.2).1
  rw [hv] at v0
  have k0 : 0 ≤ 3 * v + g := by omega
  have k1 : 3 * v + g < 12 := by omega
  have hk := hW.2.1 (3 * v + g) k0 k1
  have na : s 12 (3 * v + g) ≠ a := by omega
  -- the class, up to the one who stands in the way
  have C0 : ∀ h, zClM h s s → zm79 (some (12, 0)) (some (5, r.toNat)) (zE g) (zE sh) h = zb (zm66 (some (12, 0)) (some (0, a.toNat)) (some (10, (3 * v + g).toNat)) h) fun x58 h57 => if x58 = none then zm79_26 (some (5, r.toNat)) (zE g) (zE sh) (some (0, a.toNat)) (some (10, (3 * v + g).toNat)) h57 else zob 5 x58 fun p60 i61 => zlet (zsi h57 p60 i61 2 (1 : Int32)) fun h64 => zb (zm58 (some (12, 0)) (zr h64 p60 i61 0) h64) fun _ h66 => zm79_26 (some (5, r.toNat)) (zE g) (zE sh) (some (0, a.toNat)) (some (10, (3 * v + g).toNat)) h66 := fun h hC => by
    have cr : zCr h := hC.1.1
    have cA : zCA h s := hC.1.2.2.1
    have cR : zCR h s := hC.1.2.2.2.2.1
    have cV : zCV h s := hC.1.2.2.2.2.2.2.2.2.1
    have eA := zCrA cR r0 r1
    rw [ha] at eA
    have eV := zCa1 cA a0.1 a0.2
    rw [hv] at eV
    rw [zm79, zo_5, zlet_s, zo_12, eA, zo_0, eV, zLVa cr cV v0.1 v0.2, zo_9, zLKa cV v0.1 v0.2 g0 g1]
  have q1 : ∀ h, zClM h s s → zr h 10 (3 * v + g).toNat 1 = zrf 0 (s 13 (3 * v + g)) := fun h hC => by
    have := zCk1 hC.1.2.2.2.2.2.2.2.2.2.1 k0 k1
    rwa [zmid_j (by decide)] at this
  -- nobody there
  have A : (s 13 (3 * v + g) = -1 ∨ s 13 (3 * v + g) = a ∨ zrlI s (s 13 (3 * v + g)) (-1)) → ∃ t : zS, t = ztkT s r g v a sh ∧ zfin s v t ∧ t 33 r = s 33 r ∧ (∀ h, zClM h s s → ∃ h', zm79 (some (12, 0)) (some (5, r.toNat)) (zE g) (zE sh) h = some (.inl (), h') ∧ zClM h' s t ∧ zfrC h h') := fun hA => by
    refine ⟨ztkS s r g (3 * v + g) a sh, (zits_t hA).symm, ztk_f (zfin_0 hW) rfl hW r0 r1 g0 g1 ha hv s0 na, by rw [ztkS_j (by decide) (by decide) (by decide) (by decide) (by decide)], fun h hC => ?_⟩
    · obtain ⟨h', b1, b2, b3⟩ := zc79_26 (k := 3 * v + g) (sh := sh) hC hW.2.1 r0 r1 g0 g1 v0.1 v0.2 rfl a0.1 s0 rfl na (fun z => ⟨z, rfl⟩)
      refine ⟨h', ?_, b2, b3⟩
      have e66 : zm66 (some (12, 0)) (some (0, a.toNat)) (some (10, (3 * v + g).toNat)) h = some (.inl none, h) := by
        rw [zm66, zo_10, q1 h hC]
        by_cases c : s 13 (3 * v + g) = -1
        · rw [if_pos (by rw [c, zrf_n])]
        · rw [if_neg (by rw [zrf_z hk.2.1.1]; exact c)]
          by_cases d : s 13 (3 * v + g) = a
          · rw [if_pos (by rw [d, zrf_s a0.1])]
          · rw [if_neg (by rw [← zrf_s (k := 0) a0.1, zrf_i hk.2.1.1 (by omega)]; exact d)]
            have cr : zCr h := hC.1.1
            have cR : zCR h s := hC.1.2.2.2.2.1
            obtain ⟨x, x1, x2⟩ := zc53i cr cR hW.2.2.2.2.2.1 (a := s 13 (3 * v + g)) (by omega)
            rcases hA with hA | hA | hA
            · exact absurd hA c
            · exact absurd hA d
            · rw [zrlI_u hW.2.2.2.2.2.2.2.2.2.2.2.2.2.2.2.2.2.2 x1 hA, zrf_n] at x2
              rw [zrf_s (by omega), zo_12, x2, zb_s]
      rw [C0 h hC, e66, zb_s, if_pos rfl, b1]
  by_cases c : s 13 (3 * v + g) = -1
  · exact A (Or.inl c)
  · by_cases d : s 13 (3 * v + g) = a
    · exact A (Or.inr (Or.inl d))
    · obtain ⟨x, xI⟩ := zrlI_x (s := s) (a := s 13 (3 * v + g))
      rcases xI with ⟨rfl, xI⟩ | ⟨x0, xI⟩
      · exact A (Or.inr (Or.inr (Or.inl ⟨rfl, xI⟩)))
      · have I : zrlI s (s 13 (3 * v + g)) x := Or.inr ⟨x0, xI⟩
        have xr : x ≠ r := fun z => d (by rw [← xI.1, z, ha])
        have c0 : 0 ≤ s 13 (3 * v + g) ∧ s 13 (3 * v + g) < s 2 0 := by omega
        have cv : s 3 (s 13 (3 * v + g)) = v := by rw [hk.2.2.2.2.2 c]; omega
        have W1 := zWf_331 hW x0.1 x0.2 xI.2
        obtain ⟨w, w12, wo⟩ := zlos_w (s := zup s 33 x 1) (a := s 13 (3 * v + g)) hW.2.1 v0.1 v0.2 c0.1 hn.1 3 (Nat.le_refl _)
        have W2 := zWf_mw W1 w
        have F : zfin s v (zlos (zup s 33 x 1) (s 13 (3 * v + g)) v 3) := ⟨W2, fun j j1 j2 j3 j4 _ _ _ _ _ => by
            rw [w.1 j j1 j2 j3]
            funext u
            exact zup_j j4, fun u hu z => by
            obtain ⟨o1, o2⟩ := wo u hu
            unfold zoth3 zoth2 at z
            rw [w12, o1, o2] at z
            rcases z with (z | z) | z <;> exact z rfl⟩
        have e12 : zlos (zup s 33 x 1) (s 13 (3 * v + g)) v 3 12 = s 12 := w12
        have e33 : zlos (zup s 33 x 1) (s 13 (3 * v + g)) v 3 33 r = s 33 r := by
          rw [w.1 33 (by decide) (by decide) (by decide)]
          exact zup_a (Ne.symm xr)
        have e30 : zlos (zup s 33 x 1) (s 13 (3 * v + g)) v 3 30 0 = s 30 0 := by
          rw [w.1 30 (by decide) (by decide) (by decide)]
          rfl
        have e2 : zlos (zup s 33 x 1) (s 13 (3 * v + g)) v 3 2 0 = s 2 0 := by
          rw [w.1 2 (by decide) (by decide) (by decide)]
          rfl
        have hq := hW.2.2.2.2.2.2.2.2.2.2.2.2.2.2.2.2.2.2
        have ex : Classical.epsilon (zrlI s (s 13 (3 * v + g))) = x := zrlI_u hq (Classical.epsilon_spec ⟨x, I⟩) I
        have eT : ztkT s r g v a sh = ztkS (zlos (zup s 33 x 1) (s 13 (3 * v + g)) v 3) r g (3 * v + g) a sh := by
          unfold ztkT
          rw [zits_f (fun z => by
            rcases z with z | z | z
            · exact c z
            · exact d z
            · have := zrlI_u hq z I
              omega), ex]
        refine ⟨ztkS (zlos (zup s 33 x 1) (s 13 (3 * v + g)) v 3) r g (3 * v + g) a sh, eT.symm, ztk_f F e12 hW r0 r1 g0 g1 ha hv s0 na, by rw [ztkS_j (by decide) (by decide) (by decide) (by decide) (by decide)]; exact e33, fun h hC => ?_⟩
        · have cr : zCr h := hC.1.1
          have cR : zCR h s := hC.1.2.2.2.2.1
          have C1 : zClM (zsi h 5 x.toNat 2 (zE 1)) s (zup s 33 x 1) := zClM_5 hC x0.2 (fun z z' => zw_5_2 z x0.1 z') (by decide) (by decide) (by decide) (by decide)
          obtain ⟨h1, b1, b2, b3⟩ := zc58 (zClM_s (s0' := zup s 33 x 1) C1 rfl rfl rfl) hW.1 hW.2.1 c0.1 c0.2 cv
          obtain ⟨h', d1, d2, d3⟩ := zc79_26 (k := 3 * v + g) (sh := sh) (zClM_s (s0' := s) b2 rfl rfl rfl) W2.2.1 r0 (by rw [e30]; exact r1) g0 g1 v0.1 v0.2 rfl a0.1 s0 e12 na (fun z => absurd z d)
          refine ⟨h', ?_, d2, ((zfrC_i (by unfold zpc1; decide)).tr b3).tr d3⟩
          have e66 : zm66 (some (12, 0)) (some (0, a.toNat)) (some (10, (3 * v + g).toNat)) h = some (.inl (some (5, x.toNat)), h) := by
            rw [zm66, zo_10, q1 h hC, if_neg (by rw [zrf_z hk.2.1.1]; exact c), if_neg (by rw [← zrf_s (k := 0) a0.1, zrf_i hk.2.1.1 (by omega)]; exact d)]
            obtain ⟨y, y1, y2⟩ := zc53i cr cR hW.2.2.2.2.2.1 (a := s 13 (3 * v + g)) (by omega)
            rw [zrlI_u hW.2.2.2.2.2.2.2.2.2.2.2.2.2.2.2.2.2.2 y1 I, zrf_s x0.1] at y2
            rw [zrf_s (by omega), zo_12, y2, zb_s]
          have eA : zr (zsi h 5 x.toNat 2 (zE 1)) 5 x.toNat 0 = some (0, (s 13 (3 * v + g)).toNat) := by
            have := zCrA cR x0.1 x0.2
            rwa [xI.1] at this
          rw [C0 h hC, e66, zb_s, if_neg (fun z => by cases z), zo_5, zE_1, zlet_s, eA, b1, zb_s, d1]

