set_option maxRecDepth 16384
/-! The start: the state; the model's fills. -/
def zs0 : zS := fun j _ => if j = 12 ∨ j = 13 ∨ j = 18 ∨ j = 23 ∨ j = 62 then -1 else if j = 21 then 1 else 0
theorem zMd_cg {h : zH} {s s' : zS} (hM : zMd h s) (e : ∀ j ∈ zmS, s j 0 = s' j 0) (e2 : ∀ e ∈ zmA, ∀ x : Nat, x < e.2.2 → s e.1 x = s' e.1 x) : zMd h s' := by
  refine ⟨fun j hj => (hM.1 j hj).trans (congrArg zE (e j hj)), fun a ha => ?_⟩
  obtain ⟨c1, c2, c3⟩ := hM.2 a ha
  exact ⟨c1, c2, fun x hx => (c3 x hx).trans (congrArg zE (e2 a ha x hx))⟩
theorem zp136_260 {h : zH} {s : zS} {k : zq → zH → zRs Unit} (hM : zMd h s) : ∃ h' s', zm136_260 k zN0 (some (13, 0)) (zE 0) h = k (some (13, 0)) h' ∧ zMd h' s' ∧ (∀ a, 0 ≤ a → a < 12 → s' 12 a = -1 ∧ s' 13 a = -1) ∧ (∀ j, j ≠ 12 → j ≠ 13 → s' j = s j) ∧ zfrM h h' := by
  refine zloop0 (W := fun n i hx => zm136_260 k n (some (13, 0)) (zE i) hx) (N := 12) (fun i hx => ∃ s', zMd hx s' ∧ (∀ a, 0 ≤ a → a < i → s' 12 a = -1 ∧ s' 13 a = -1) ∧ (∀ j, j ≠ 12 → j ≠ 13 → s' j = s j) ∧ zfrM h hx) (fun q => ∃ h' s', q = k (some (13, 0)) h' ∧ zMd h' s' ∧ (∀ a, 0 ≤ a → a < 12 → s' 12 a = -1 ∧ s' 13 a = -1) ∧ (∀ j, j ≠ 12 → j ≠ 13 → s' j = s j) ∧ zfrM h h') h ⟨s, hM, fun a a0 a1 => by omega, fun _ _ _ => rfl, zfrM.rf⟩ (by omega) (by omega) ?_ ?_
  · intro n hx ⟨t, q1, q2, q3, q4⟩
    refine ⟨hx, t, ?_, q1, q2, q3, q4⟩
    rw [zm136_260, if_pos (by rw [zE_12]; exact Int32.le_refl _)]
  · intro n i hx i0 i1 ⟨t, q1, q2, q3, q4⟩
    have n3 : ¬ (12 : Int32) ≤ zE i := by rw [zE_12, zE_le (by omega) (by omega) (by omega) (by omega)]; omega
    have N1 := q1.wa (12, 112, 12) (by decide) i (-1) i0
    have N2 := N1.wa (13, 113, 12) (by decide) i (-1) i0
    refine Or.inr ⟨_, ⟨_, N2, fun a a0 a1 => ?_, fun j h1 h2 => ?_, q4.tr ((zfrM_i (Or.inr (by decide))).tr (zfrM_i (Or.inr (by decide))))⟩, ?_⟩
    · have e1 : zup (zup t 12 i (-1)) 13 i (-1) 12 a = if a = i then -1 else t 12 a := by
        rw [zup_j (by decide)]
        exact zif_u
      have e2 : zup (zup t 12 i (-1)) 13 i (-1) 13 a = if a = i then -1 else t 13 a := by
        rw [zif_u]
        rfl
      show zup (zup t 12 i (-1)) 13 i (-1) 12 a = -1 ∧ zup (zup t 12 i (-1)) 13 i (-1) 13 a = -1
      rw [e1, e2]
      by_cases c : a = i
      · rw [if_pos c, if_pos c]
        exact ⟨rfl, rfl⟩
      · rw [if_neg c, if_neg c]
        exact q2 a a0 (by omega)
    · rw [← q3 j h1 h2]
      funext u
      exact (zup_j h2).trans (zup_j h1)
    · show zm136_260 k (n + 1) (some (13, 0)) (zE i) hx = zm136_260 k n (some (13, 0)) (zE (i + 1)) _
      rw [zm136_260, if_neg n3, zM_ob, zE_m1, zMa12 q1 i0 i1, zlet_s, zMa13 N1 i0 i1, zlet_s, zE_1, zE_add, zlet_s]
theorem zp136_277 {h : zH} {s : zS} {k : zq → zH → zRs Unit} (hM : zMd h s) : ∃ h' s', zm136_277 k zN0 (some (13, 0)) (zE 0) h = k (some (13, 0)) h' ∧ zMd h' s' ∧ (∀ a, 0 ≤ a → a < 800 → s' 18 a = -1) ∧ (∀ j, j ≠ 18 → s' j = s j) ∧ zfrM h h' := by
  refine zloop0 (W := fun n i hx => zm136_277 k n (some (13, 0)) (zE i) hx) (N := 800) (fun i hx => ∃ s', zMd hx s' ∧ (∀ a, 0 ≤ a → a < i → s' 18 a = -1) ∧ (∀ j, j ≠ 18 → s' j = s j) ∧ zfrM h hx) (fun q => ∃ h' s', q = k (some (13, 0)) h' ∧ zMd h' s' ∧ (∀ a, 0 ≤ a → a < 800 → s' 18 a = -1) ∧ (∀ j, j ≠ 18 → s' j = s j) ∧ zfrM h h') h ⟨s, hM, fun a a0 a1 => by omega, fun _ _ => rfl, zfrM.rf⟩ (by omega) (by omega) ?_ ?_
  · intro n hx ⟨t, q1, q2, q3, q4⟩
    refine ⟨hx, t, ?_, q1, q2, q3, q4⟩
    rw [zm136_277, if_pos (by rw [zE_800]; exact Int32.le_refl _)]
  · intro n i hx i0 i1 ⟨t, q1, q2, q3, q4⟩
    have n3 : ¬ (800 : Int32) ≤ zE i := by rw [zE_800, zE_le (by omega) (by omega) (by omega) (by omega)]; omega
    have N1 := q1.wa (18, 118, 800) (by decide) i (-1) i0
    refine Or.inr ⟨_, ⟨_, N1, fun a a0 a1 => ?_, fun j h1 => ?_, q4.tr (zfrM_i (Or.inr (by decide)))⟩, ?_⟩
    · show zup t 18 i (-1) 18 a = -1
      rw [zif_u]
      by_cases c : a = i
      · rw [if_pos c]
      · rw [if_neg c]
        exact q2 a a0 (by omega)
    · rw [← q3 j h1]
      funext u
      exact zup_j h1
    · show zm136_277 k (n + 1) (some (13, 0)) (zE i) hx = zm136_277 k n (some (13, 0)) (zE (i + 1)) _
      rw [zm136_277, if_neg n3, zM_ob, zE_m1, zMa18 q1 i0 i1, zlet_s, zE_1, zE_add, zlet_s]
theorem zp136_289 {h : zH} {s : zS} {k : zq → zH → zRs Unit} (hM : zMd h s) : ∃ h' s', zm136_289 k zN0 (some (13, 0)) (zE 0) h = k (some (13, 0)) h' ∧ zMd h' s' ∧ (∀ a, 0 ≤ a → a < 4 → s' 21 a = 1 ∧ s' 23 a = -1) ∧ (∀ j, j ≠ 21 → j ≠ 23 → s' j = s j) ∧ zfrM h h' := by
  refine zloop0 (W := fun n i hx => zm136_289 k n (some (13, 0)) (zE i) hx) (N := 4) (fun i hx => ∃ s', zMd hx s' ∧ (∀ a, 0 ≤ a → a < i → s' 21 a = 1 ∧ s' 23 a = -1) ∧ (∀ j, j ≠ 21 → j ≠ 23 → s' j = s j) ∧ zfrM h hx) (fun q => ∃ h' s', q = k (some (13, 0)) h' ∧ zMd h' s' ∧ (∀ a, 0 ≤ a → a < 4 → s' 21 a = 1 ∧ s' 23 a = -1) ∧ (∀ j, j ≠ 21 → j ≠ 23 → s' j = s j) ∧ zfrM h h') h ⟨s, hM, fun a a0 a1 => by omega, fun _ _ _ => rfl, zfrM.rf⟩ (by omega) (by omega) ?_ ?_
  · intro n hx ⟨t, q1, q2, q3, q4⟩
    refine ⟨hx, t, ?_, q1, q2, q3, q4⟩
    rw [zm136_289, if_pos (by rw [zE_4]; exact Int32.le_refl _)]
  · intro n i hx i0 i1 ⟨t, q1, q2, q3, q4⟩
    have n3 : ¬ (4 : Int32) ≤ zE i := by rw [zE_4, zE_le (by omega) (by omega) (by omega) (by omega)]; omega
    have N1 := q1.wa (21, 121, 4) (by decide) i 1 i0
    have N2 := N1.wa (23, 123, 4) (by decide) i (-1) i0
    refine Or.inr ⟨_, ⟨_, N2, fun a a0 a1 => ?_, fun j h1 h2 => ?_, q4.tr ((zfrM_i (Or.inr (by decide))).tr (zfrM_i (Or.inr (by decide))))⟩, ?_⟩
    · have e1 : zup (zup t 21 i 1) 23 i (-1) 21 a = if a = i then 1 else t 21 a := by
        rw [zup_j (by decide)]
        exact zif_u
      have e2 : zup (zup t 21 i 1) 23 i (-1) 23 a = if a = i then -1 else t 23 a := by
        rw [zif_u]
        rfl
      show zup (zup t 21 i 1) 23 i (-1) 21 a = 1 ∧ zup (zup t 21 i 1) 23 i (-1) 23 a = -1
      rw [e1, e2]
      by_cases c : a = i
      · rw [if_pos c, if_pos c]
        exact ⟨rfl, rfl⟩
      · rw [if_neg c, if_neg c]
        exact q2 a a0 (by omega)
    · rw [← q3 j h1 h2]
      funext u
      exact (zup_j h2).trans (zup_j h1)
    · show zm136_289 k (n + 1) (some (13, 0)) (zE i) hx = zm136_289 k n (some (13, 0)) (zE (i + 1)) _
      rw [zm136_289, if_neg n3, zM_ob, zE_m1, zE_1, zMa21 q1 i0 i1, zlet_s, zMa23 N1 i0 i1, zlet_s, zE_add, zlet_s]
theorem zp136_306 {h : zH} {s : zS} (hM : zMd h s) : ∃ h' s', zm136_306 zN0 (some (13, 0)) (zE 0) h = some (.inl (), h') ∧ zMd h' s' ∧ (∀ a, 0 ≤ a → a < 8 → s' 62 a = -1) ∧ (∀ j, j ≠ 62 → s' j = s j) ∧ zfrM h h' := by
  refine zloop0 (W := fun n i hx => zm136_306 n (some (13, 0)) (zE i) hx) (N := 8) (fun i hx => ∃ s', zMd hx s' ∧ (∀ a, 0 ≤ a → a < i → s' 62 a = -1) ∧ (∀ j, j ≠ 62 → s' j = s j) ∧ zfrM h hx) (fun q => ∃ h' s', q = some (.inl (), h') ∧ zMd h' s' ∧ (∀ a, 0 ≤ a → a < 8 → s' 62 a = -1) ∧ (∀ j, j ≠ 62 → s' j = s j) ∧ zfrM h h') h ⟨s, hM, fun a a0 a1 => by omega, fun _ _ => rfl, zfrM.rf⟩ (by omega) (by omega) ?_ ?_
  · intro n hx ⟨t, q1, q2, q3, q4⟩
    refine ⟨hx, t, ?_, q1, q2, q3, q4⟩
    rw [zm136_306, if_pos (by rw [zE_8]; exact Int32.le_refl _)]
  · intro n i hx i0 i1 ⟨t, q1, q2, q3, q4⟩
    have n3 : ¬ (8 : Int32) ≤ zE i := by rw [zE_8, zE_le (by omega) (by omega) (by omega) (by omega)]; omega
    have N1 := q1.wa (62, 162, 8) (by decide) i (-1) i0
    refine Or.inr ⟨_, ⟨_, N1, fun a a0 a1 => ?_, fun j h1 => ?_, q4.tr (zfrM_i (Or.inr (by decide)))⟩, ?_⟩
    · show zup t 62 i (-1) 62 a = -1
      rw [zif_u]
      by_cases c : a = i
      · rw [if_pos c]
      · rw [if_neg c]
        exact q2 a a0 (by omega)
    · rw [← q3 j h1]
      funext u
      exact zup_j h1
    · show zm136_306 (n + 1) (some (13, 0)) (zE i) hx = zm136_306 n (some (13, 0)) (zE (i + 1)) _
      rw [zm136_306, if_neg n3, zM_ob, zE_m1, zMa62 q1 i0 i1, zlet_s, zE_1, zE_add, zlet_s]
theorem zmA_p : zmA.Pairwise (fun a b => a.2.1 ≠ b.2.1 ∧ a.1 ≠ b.1) := by decide +kernel
theorem zmA_n : zmA.length = 64 ∧ (zmA.map (·.2.2)).sum ≤ 40000 := by decide +kernel
theorem zmA_d : ∀ e ∈ zmA, (e.1 = 12 → e.2.2 ≤ 12) ∧ (e.1 = 13 → e.2.2 ≤ 12) ∧ (e.1 = 18 → e.2.2 ≤ 800) ∧ (e.1 = 21 → e.2.2 ≤ 4) ∧ (e.1 = 23 → e.2.2 ≤ 4) ∧ (e.1 = 62 → e.2.2 ≤ 8) := by decide +kernel
theorem zmS_d : ∀ j ∈ zmS, j ≠ 12 ∧ j ≠ 13 ∧ j ≠ 18 ∧ j ≠ 21 ∧ j ≠ 23 ∧ j ≠ 62 := by decide
theorem zp136 {h : zH} (c : ∀ k, 100 ≤ k → zct h k = 0) (i13 : ∀ j, zi h 13 0 j = 0) : ∃ h', zm136 (some (13, 0)) h = some (.inl (), h') ∧ zMd h' zs0 ∧ zKp (fun k => ¬ zpm1 k) h h' ∧ zce h' = zce h + 64 ∧ zso h' ≤ zso h + 40000 := by
  obtain ⟨p1, p2, p3, p4, p5, p6⟩ := zfold_p zmA h (fun e he => ⟨c _ (zmA_k e he), zmA_k e he⟩) zmA_p
  obtain ⟨H, hH⟩ : ∃ H, H = zfold zmA h := ⟨_, rfl⟩
  have e136 := zp136_e c
  rw [← hH] at p1 p2 p3 p4 p5 p6 e136
  have M0 : zMd H (fun _ _ => 0) := by
    refine ⟨fun j hj => ?_, fun e he => ?_⟩
    · rw [p3, i13]
      exact zE_0
    · obtain ⟨a1, a2, a3⟩ := p1 e he
      exact ⟨a1, a2, fun x hx => (a3 x).trans zE_0⟩
  obtain ⟨h1, s1, a1, a2, a3, a4, a5⟩ := zp136_260 (k := zm136_275) M0
  obtain ⟨h2, s2, b1, b2, b3, b4, b5⟩ := zp136_277 (k := zm136_287) a2
  obtain ⟨h3, s3, d1, d2, d3, d4, d5⟩ := zp136_289 (k := zm136_304) b2
  obtain ⟨h4, s4, f1, f2, f3, f4, f5⟩ := zp136_306 d2
  have F := ((a5.tr b5).tr d5).tr f5
  have o : ∀ j, j ≠ 12 → j ≠ 13 → j ≠ 18 → j ≠ 21 → j ≠ 23 → j ≠ 62 → ∀ a, s4 j a = 0 := fun j n1 n2 n3 n4 n5 n6 a => by
    rw [f4 j n6, d4 j n4 n5, b4 j n3, a4 j n1 n2]
  have z : ∀ j, j ≠ 12 → j ≠ 13 → j ≠ 18 → j ≠ 21 → j ≠ 23 → j ≠ 62 → ∀ a, zs0 j a = 0 := fun j n1 n2 n3 n4 n5 n6 a => by
    unfold zs0
    rw [if_neg (by omega), if_neg n4]
  refine ⟨h4, ?_, zMd_cg f2 (fun j hj => ?_) (fun e he x hx => ?_), (p4.mn fun k hk => ?_).tr F.1, ?_, ?_⟩
  · rw [e136, zE_0, a1, zm136_275, zE_0, b1, zm136_287, zE_0, d1, zm136_304, zE_0, f1]
  · obtain ⟨n1, n2, n3, n4, n5, n6⟩ := zmS_d j hj
    rw [o j n1 n2 n3 n4 n5 n6, z j n1 n2 n3 n4 n5 n6]
  · obtain ⟨n1, n2, n3, n4, n5, n6⟩ := zmA_d e he
    by_cases c1 : e.1 = 12
    · have := n1 c1
      rw [c1, f4 12 (by decide), d4 12 (by decide) (by decide), b4 12 (by decide), (a3 x (by omega) (by omega)).1]
      rfl
    by_cases c2 : e.1 = 13
    · have := n2 c2
      rw [c2, f4 13 (by decide), d4 13 (by decide) (by decide), b4 13 (by decide), (a3 x (by omega) (by omega)).2]
      rfl
    by_cases c3 : e.1 = 18
    · have := n3 c3
      rw [c3, f4 18 (by decide), d4 18 (by decide) (by decide), b3 x (by omega) (by omega)]
      rfl
    by_cases c4 : e.1 = 21
    · have := n4 c4
      rw [c4, f4 21 (by decide), (d3 x (by omega) (by omega)).1]
      rfl
    by_cases c5 : e.1 = 23
    · have := n5 c5
      rw [c5, f4 23 (by decide), (d3 x (by omega) (by omega)).2]
      rfl
    by_cases c6 : e.1 = 62
    · have := n6 c6
      rw [c6, f3 x (by omega) (by omega)]
      rfl
    rw [o e.1 c1 c2 c3 c4 c5 c6, z e.1 c1 c2 c3 c4 c5 c6]
  · have hk : ¬ zpm1 k := hk
    unfold zpm1 at hk
    refine ⟨by omega, fun e he => ?_⟩
    have := zmA_k e he
    omega
  · rw [F.2.1, p5, zmA_n.1]
  · rw [F.2.2, p6]
    have := zmA_n.2
    omega
