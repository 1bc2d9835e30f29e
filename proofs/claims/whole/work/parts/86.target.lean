set_option maxRecDepth 16384
/-! target: both sides. -/
def zadg (h : zH) (k i k2 i2 : Nat) : zH := zsn (zsr h k i (zln h k i) (some (k2, i2))) k i (zln h k i + 1)
theorem zladd_g {h : zH} {k i k2 i2 : Nat} (hn : zln h k i < 33) : ∃ c n, c ≤ 1 ∧ n ≤ 33 ∧ zladd h k i k2 i2 = zro (zadg h k i k2 i2) c n := by
  have hz : zcap (zln h k i + 1) ≤ 33 := by
    unfold zcap
    repeat' split
    all_goals omega
  unfold zladd
  split
  · exact ⟨1, _, Nat.le_refl _, hz, rfl⟩
  · exact ⟨0, 0, by omega, by omega, rfl⟩
theorem zel_g {h : zH} {k i : Nat} (K : Nat) (hk : ztg K = 0 ∧ zkc K = zel k) (hr : ∀ j, j < zln h k i → ∃ m, zr h k i j = some (K, m)) : zelB h k i = true := by
  unfold zelB
  rw [List.all_eq_true]
  intro j hj
  obtain ⟨m, hm⟩ := hr j (List.mem_range.mp hj)
  rw [hm]
  show (ztg K == 0 && zkc K == zel k) = true
  rw [hk.1, hk.2]
  simp only [BEq.rfl, Bool.and_self]
theorem zln_i {h : zH} {k i n i' : Nat} (e : i' ≠ i) : zln (zsn h k i n) k i' = zln h k i' := if_neg fun z => e z.2
def ztgH (h : zH) (a b c d : Int) : zH := zsi (zsi (zsi (zsi (znw h 6 0 4) 6 (zct h 6) 0 (zE a)) 6 (zct h 6) 1 (zE b)) 6 (zct h 6) 2 (zE c)) 6 (zct h 6) 3 (zE d)
def ztgS (s : zS) (f a b c d : Int) : zS := zup (zup (zup (zup (zup s 66 (4 * f + s 65 f) a) 67 (4 * f + s 65 f) b) 68 (4 * f + s 65 f) c) 69 (4 * f + s 65 f) d) 65 f (s 65 f + 1)
section ZTG
variable {s : zS} {f a b c d u : Int}
theorem ztgS_65 : ztgS s f a b c d 65 u = if u = f then s 65 f + 1 else s 65 u := by
  show zup s 65 f (s 65 f + 1) 65 u = _
  exact zif_u
theorem ztgS_66 : ztgS s f a b c d 66 u = if u = 4 * f + s 65 f then a else s 66 u := by
  show zup s 66 (4 * f + s 65 f) a 66 u = _
  exact zif_u
theorem ztgS_67 : ztgS s f a b c d 67 u = if u = 4 * f + s 65 f then b else s 67 u := by
  show zup s 67 (4 * f + s 65 f) b 67 u = _
  exact zif_u
theorem ztgS_68 : ztgS s f a b c d 68 u = if u = 4 * f + s 65 f then c else s 68 u := by
  show zup s 68 (4 * f + s 65 f) c 68 u = _
  exact zif_u
theorem ztgS_69 : ztgS s f a b c d 69 u = if u = 4 * f + s 65 f then d else s 69 u := by
  show zup s 69 (4 * f + s 65 f) d 69 u = _
  exact zif_u
end ZTG
theorem ztg_k {h : zH} {a b c d : Int} {f : Nat} (P : Nat → Prop) (p1 : ¬ P 6) (p2 : ¬ P 20) : zKp P h (zadg (ztgH h a b c d) 20 f 6 (zct h 6)) :=
  ((((((zKp_w p1).tr (zKp_i p1)).tr (zKp_i p1)).tr (zKp_i p1)).tr (zKp_i p1)).tr (zKp_r p2)).tr (zKp_n p2)
theorem ztgH_C {h : zH} {s : zS} {f a b c d : Int} (hC : zCl h s) (hW : zWf s) (f0 : 0 ≤ f) (f1 : f < 8) (h4 : s 65 f < 4) : zCl (zadg (ztgH h a b c d) 20 f.toNat 6 (zct h 6)) (ztgS s f a b c d) := by
  have hG := hW.2.2.2.2.2.2.2.2.1
  obtain ⟨c1, c2, c3, c4, c5, c6, c7, c8, c9, c10, c11, c12, c13, c14⟩ := hC
  obtain ⟨n1, n2, n3, n4, n5, n6, n7, n8, n9, n10, n11, n12, n13⟩ := c14
  have hl : (zln h 20 f.toNat : Int) = s 65 f := zCgN c11 f0 f1
  have h65 := hG.1 f f0 f1
  have hz : ∀ i j, i ≠ zct h 6 → zi (zadg (ztgH h a b c d) 20 f.toNat 6 (zct h 6)) 6 i j = zi h 6 i j := fun i j e => by
    show zi (ztgH h a b c d) 6 i j = _
    exact (zi_i e).trans ((zi_i e).trans ((zi_i e).trans ((zi_i e).trans (znw_i e))))
  have hy : ∀ u j, zr (zadg (ztgH h a b c d) 20 f.toNat 6 (zct h 6)) 20 u j = zr (zsr (ztgH h a b c d) 20 f.toNat (zln h 20 f.toNat) (some (6, zct h 6))) 20 u j := fun u j => rfl
  have hct : zct (zadg (ztgH h a b c d) 20 f.toNat 6 (zct h 6)) 6 = zct h 6 + 1 := zct_n (h := h) (k := 6) (n := 0) (sl := 4)
  refine ⟨c1, c2, c3, c4, c5, c6, c7, c8, c9, c10, ⟨c11.1, fun u u0 u1 => ?_⟩, c12, zCM_w c13 (ztg_k _ (by decide) (by decide)) rfl rfl rfl rfl, n1, n2, n3, n4, n5, n6, n7, n8, n9, n10, n11, n12, fun u x u0 u1 x0 x1 i hi => ?_⟩
  · obtain ⟨p0, p1, p2, p3, p4, p5, p6, p7, p8⟩ := c11.2 u u0 u1
    have hu := hG.1 u u0 u1
    refine ⟨p0, p1, p2, p3, p4, p5, p6, ?_, fun x x0 x1 => ?_⟩
    · rw [ztgS_65]
      by_cases e : u = f
      · subst e
        rw [if_pos rfl]
        have : zln (zadg (ztgH h a b c d) 20 u.toNat 6 (zct h 6)) 20 u.toNat = zln h 20 u.toNat + 1 := zln_s (h := zsr (ztgH h a b c d) 20 u.toNat (zln h 20 u.toNat) (some (6, zct h 6)))
        omega
      · rw [if_neg e]
        have : zln (zadg (ztgH h a b c d) 20 f.toNat 6 (zct h 6)) 20 u.toNat = zln h 20 u.toNat := zln_i (h := zsr (ztgH h a b c d) 20 f.toNat (zln h 20 f.toNat) (some (6, zct h 6))) (by omega)
        rw [this]
        exact p7
    · rw [ztgS_65] at x1
      rw [ztgS_66, ztgS_67, ztgS_68, ztgS_69]
      by_cases e : u = f ∧ x = s 65 f
      · obtain ⟨rfl, rfl⟩ := e
        refine ⟨zct h 6, ?_, ?_, ?_, ?_, ?_⟩
        · rw [hy, show (s 65 u).toNat = zln h 20 u.toNat by omega]
          exact zr_s
        · rw [if_pos rfl]
          show zi (ztgH h a b c d) 6 (zct h 6) 0 = _
          exact (zi_j (by decide)).trans ((zi_j (by decide)).trans ((zi_j (by decide)).trans zi_s))
        · rw [if_pos rfl]
          show zi (ztgH h a b c d) 6 (zct h 6) 1 = _
          exact (zi_j (by decide)).trans ((zi_j (by decide)).trans zi_s)
        · rw [if_pos rfl]
          show zi (ztgH h a b c d) 6 (zct h 6) 2 = _
          exact (zi_j (by decide)).trans zi_s
        · rw [if_pos rfl]
          show zi (ztgH h a b c d) 6 (zct h 6) 3 = _
          exact zi_s
      · have x2 : x < s 65 u := by
          by_cases e2 : u = f
          · rw [if_pos e2] at x1
            have : ¬ x = s 65 f := fun z => e ⟨e2, z⟩
            subst e2
            omega
          · rwa [if_neg e2] at x1
        obtain ⟨i, i1, i2, i3, i4, i5⟩ := p8 x x0 x2
        have hi := n13 u x u0 u1 x0 x2 i i1
        have ne : ¬ 4 * u + x = 4 * f + s 65 f := fun z => by
          by_cases e2 : u = f
          · exact e ⟨e2, by omega⟩
          · omega
        rw [if_neg ne, if_neg ne, if_neg ne, if_neg ne]
        refine ⟨i, ?_, (hz i 0 (by omega)).trans i2, (hz i 1 (by omega)).trans i3, (hz i 2 (by omega)).trans i4, (hz i 3 (by omega)).trans i5⟩
        rw [hy]
        by_cases e2 : u = f
        · subst e2
          exact (zr_j (by omega)).trans i1
        · exact (zr_i (by omega)).trans i1
  · rw [ztgS_65] at x1
    rw [hct]
    rw [hy] at hi
    by_cases e : u = f ∧ x = s 65 f
    · obtain ⟨rfl, rfl⟩ := e
      rw [show (s 65 u).toNat = zln h 20 u.toNat by omega, zr_s] at hi
      have : zct h 6 = i := by injection hi with hi; injection hi
      omega
    · have x2 : x < s 65 u := by
        by_cases e2 : u = f
        · rw [if_pos e2] at x1
          have : ¬ x = s 65 f := fun z => e ⟨e2, z⟩
          subst e2
          omega
        · rwa [if_neg e2] at x1
      have hi2 : zr h 20 u.toNat x.toNat = some (6, i) := by
        by_cases e2 : u = f
        · subst e2
          rwa [zr_j (by omega)] at hi
        · rwa [zr_i (by omega)] at hi
      have := n13 u x u0 u1 x0 x2 i hi2
      omega
theorem ztgS_W {s : zS} {f a b c d : Int} (hW : zWf s) (f0 : 0 ≤ f) (f1 : f < 8) (h4 : s 65 f < 4) (ha : 0 ≤ a ∧ a ≤ 2) (hb : 0 ≤ b ∧ b ≤ 1) (hc : 0 ≤ c ∧ c ≤ 6) (hd : 0 ≤ d ∧ d ≤ 100) : zWf (ztgS s f a b c d) := by
  obtain ⟨wA, wK, wC, wD, wP, wR, wZ, wT, wG, wE, wM, wX⟩ := hW
  refine ⟨wA, wK, wC, wD, wP, wR, wZ, wT, ⟨fun u u0 u1 => ?_, wG.2⟩, wE, wM, wX⟩
  obtain ⟨g1, g2, g3, g4, g5, g6⟩ := wG.1 u u0 u1
  have hf := (wG.1 f f0 f1).2.2.2.2.1
  refine ⟨g1, g2, g3, g4, ?_, fun x x0 x1 => ?_⟩
  · rw [ztgS_65]
    by_cases e : u = f
    · rw [if_pos e]; omega
    · rw [if_neg e]; exact g5
  · rw [ztgS_65] at x1
    rw [ztgS_66, ztgS_67, ztgS_68, ztgS_69]
    by_cases e : 4 * u + x = 4 * f + s 65 f
    · simp only [if_pos e]
      exact ⟨ha, hb, hc, hd⟩
    · simp only [if_neg e]
      refine g6 x x0 ?_
      by_cases e2 : u = f
      · rw [if_pos e2] at x1
        subst e2
        omega
      · rwa [if_neg e2] at x1
theorem zp231_x {x1 x2 x3 x4 x5 : Int32} {t : Int} {h : zH} (t1 : 1 ≤ t) (t2 : t ≤ 2) : zm231_36 (some (13, 0)) x1 x2 x3 x4 x5 (some (13, 0)) (zE t) h = some (.inl (zE 0), zsi h 13 0 0 (zE t)) := by
  rw [zm231_36, zM_ob, zlet_s, zM_ob, if_neg, zE_0]
  rw [zi_s, zE_0, zE_le (by omega) (by omega) (by omega) (by omega)]
  omega
theorem zr_target (x y z w : Int32) {b : Int} (hb : b = 0 ∨ b = 1) : zPrI (fun h => zm117 (some (12, 0)) x y (zE b) z w h) (fun h => zm231 (some (13, 0)) x y (zE b) z w h) (fun t => if t = 1 then 0 else 1) 2 := by
  intro h s hC hM hW
  obtain ⟨f, rfl, f1, f2⟩ := zE_ex x
  obtain ⟨a, rfl, a1, a2⟩ := zE_ex y
  obtain ⟨c, rfl, c1, c2⟩ := zE_ex z
  obtain ⟨d, rfl, d1, d2⟩ := zE_ex w
  have z1 : ¬ zE 1 = zE 0 := by decide
  have hC0 := hC
  have hW0 := hW
  obtain ⟨cr, cs, -, -, -, -, -, -, -, -, cG, cX, -⟩ := hC
  obtain ⟨wA, wK, wC, wD, wP, wR, wZ, wT, wG, wE, wM, wX⟩ := hW
  have eb : zE b = 0 ∨ zE b = 1 := zE_01 hb
  have eb' : zE b = zE 0 ∨ zE b = zE 1 := eb
  have m1 : ∀ h', ∃ p, zbo p (0 ≤ f ∧ f ≤ 7) ∧ zm229 (zE f) h' = some (.inl (zE p), h') := fun h' => zp229 f1 f2
  have m2 : ∀ h', ∃ p, zbo p (0 ≤ a ∧ a ≤ 2) ∧ zm139 (zE a) (zE 0) (zE 2) h' = some (.inl (zE p), h') := fun h' => zp139i a1 a2 (by omega) (by omega) (by omega) (by omega)
  have m3 : ∀ h', ∃ p, zbo p (0 ≤ c ∧ c ≤ 6) ∧ zm139 (zE c) (zE 0) (zE 6) h' = some (.inl (zE p), h') := fun h' => zp139i c1 c2 (by omega) (by omega) (by omega) (by omega)
  have m4 : ∀ h', ∃ p, zbo p (0 ≤ d ∧ d ≤ 100) ∧ zm139 (zE d) (zE 0) (zE 100) h' = some (.inl (zE p), h') := fun h' => zp139i d1 d2 (by omega) (by omega) (by omega) (by omega)
  by_cases q : (0 ≤ f ∧ f ≤ 7) ∧ (0 ≤ a ∧ a ≤ 2) ∧ (0 ≤ c ∧ c ≤ 6) ∧ 0 ≤ d ∧ d ≤ 100
  · obtain ⟨q1, q2, q3, q4⟩ := q
    have m1 : ∀ h', zm229 (zE f) h' = some (.inl (zE 1), h') := fun h' => by
      obtain ⟨p, p1, p2⟩ := m1 h'
      rwa [p1.u (zbo_1 q1)] at p2
    have m2 : ∀ h', zm139 (zE a) (zE 0) (zE 2) h' = some (.inl (zE 1), h') := fun h' => by
      obtain ⟨p, p1, p2⟩ := m2 h'
      rwa [p1.u (zbo_1 q2)] at p2
    have m3 : ∀ h', zm139 (zE c) (zE 0) (zE 6) h' = some (.inl (zE 1), h') := fun h' => by
      obtain ⟨p, p1, p2⟩ := m3 h'
      rwa [p1.u (zbo_1 q3)] at p2
    have m4 : ∀ h', zm139 (zE d) (zE 0) (zE 100) h' = some (.inl (zE 1), h') := fun h' => by
      obtain ⟨p, p1, p2⟩ := m4 h'
      rwa [p1.u (zbo_1 q4)] at p2
    have f3 : f < 8 := by omega
    obtain ⟨g1, g2, g3, g4, g5, g6⟩ := wG.1 f q1.1 f3
    have hl := zCgN cG q1.1 f3
    have ez : ∀ fi : Int32 → zRs Int32, zlz (some (20, f.toNat)) h fi = fi (zE (s 65 f)) := fun fi => zlz_g rfl rfl (zCgO cG q1.1 f3) hl
    by_cases c4 : s 65 f = 4
    · refine zexI (t := 2) hC0 hW0 (by omega) (by omega) ?_ (fun h' hM' => ?_)
      · simp (discharger := omega) only [zm117, zE_0, zE_1, zE_2, zE_3, zE_4, zE_5, zE_6, zE_7, zE_8, zE_9, zE_10, zE_11, zE_12, zE_13, zE_14, zE_neg, zE_100, zc131, if_pos q1, if_pos q2, if_pos q3, if_pos q4, ↓zb_s, ↓zo_12, ↓zLFa cr cG, ↓zo_2, ↓zlet_s, zCg0 cG, ↓ez, c4, zE_lt, Int.lt_irrefl, if_false]
        rfl
      · show zm231 (some (13, 0)) (zE f) (zE a) (zE b) (zE c) (zE d) h' = _
        simp (discharger := omega) only [zm231, zm231_21, zE_0, zE_1, zE_2, zE_3, zE_4, zE_5, zE_6, zE_7, zE_8, zE_9, zE_10, zE_11, zE_12, zE_13, zE_14, zE_neg, zE_100, m1, m2, m3, m4, ↓zb_s, z1, if_false, ↓zM_ob, ↓zMi65 hM', c4, if_true]
        exact zp231_x (t := 2) (by omega) (by omega)
    · have c5 : s 65 f < 4 := by omega
      have hC' := ztgH_C (a := a) (b := b) (c := c) (d := d) hC0 hW0 q1.1 f3 c5
      have hW' := ztgS_W (b := b) hW0 q1.1 f3 c5 q2 (by omega) q3 q4
      obtain ⟨cc, nn, hc1, hn1, he⟩ := zladd_g (h := ztgH h a b c d) (k := 20) (i := f.toNat) (k2 := 6) (i2 := zct h 6) (show zln h 20 f.toNat < 33 by omega)
      have hC2 : zCl (zladd (ztgH h a b c d) 20 f.toNat 6 (zct h 6)) (ztgS s f a b c d) := by
        rw [he]
        exact hC'.kp zKp_o
      have hK2 : zKp (fun k => ¬ zpc1 k) h (zladd (ztgH h a b c d) 20 f.toNat 6 (zct h 6)) := by
        rw [he]
        exact zKp.tr (ztg_k _ (fun z => z (by unfold zpc1; decide)) (fun z => z (by unfold zpc1; decide))) zKp_o
      refine zokI (v := s 65 f + 1) (by omega) hW' (h1 := zladd (ztgH h a b c d) 20 f.toNat 6 (zct h 6)) ?_ hC2 hK2 ?_ ?_ (fun h' hM' => ?_)
      · have g1 : zelB (ztgH h a b c d) 20 f.toNat = true := zel_g 6 ⟨rfl, rfl⟩ fun j hj => by
          have hj : j < zln h 20 f.toNat := hj
          obtain ⟨i, i1, -⟩ := zCgS cG q1.1 f3 (j : Int) (by omega) (by omega)
          exact ⟨i, i1⟩
        have g2 : zi (ztgH h a b c d) 20 f.toNat 1 = 1 := zCgO cG q1.1 f3
        have g3 : zln (ztgH h a b c d) 20 f.toNat < 33 := show zln h 20 f.toNat < 33 by omega
        have g4 : (zm15 (some (6, zct h 6)) (zE a) (zE b) (zE c) (zE d) (znw h 6 0 4)) = some (.inl (), ztgH h a b c d) := by
          rw [zm15, znn_s, zo_6, zlet_s, zif_s eb, zlet_s, zlet_s, zlet_s]
          rfl
        have hl2 : (zln (zladd (ztgH h a b c d) 20 f.toNat 6 (zct h 6)) 20 f.toNat : Int) = ztgS s f a b c d 65 f := zCgN hC2.2.2.2.2.2.2.2.2.2.2.1 q1.1 f3
        have ho2 := zCgO hC2.2.2.2.2.2.2.2.2.2.2.1 q1.1 f3
        have e65 : ztgS s f a b c d 65 f = s 65 f + 1 := by rw [ztgS_65, if_pos rfl]
        show zm117 (some (12, 0)) (zE f) (zE a) (zE b) (zE c) (zE d) h = _
        simp (discharger := omega) only [zm117, zE_0, zE_1, zE_2, zE_3, zE_4, zE_5, zE_6, zE_7, zE_8, zE_9, zE_10, zE_11, zE_12, zE_13, zE_14, zE_neg, zE_100, zc131, if_pos q1, if_pos q2, if_pos q3, if_pos q4, ↓zb_s, ↓zo_12, ↓zLFa cr cG, ↓zo_2, ↓zlet_s, zCg0 cG, ↓ez, zE_lt, c5, if_true]
        rw [zo_6, g4, zb2_s, znn_s, znn_s, zif_s (by rw [g1]; rfl), zif_s ⟨by rw [g2, zE_1], g3⟩]
        show zlz (some (20, f.toNat)) (zladd (ztgH h a b c d) 20 f.toNat 6 (zct h 6)) _ = _
        rw [zlz_g rfl rfl ho2 hl2, e65]
      · rw [he]
        show zce h + 1 + cc ≤ _
        omega
      · rw [he]
        show zso h + 4 + nn ≤ _
        omega
      · have hM1 := hM'.ws 0 (by decide) 0
        have hM2 := hM1.wa (66, 166, 32) (by decide) (4 * f + s 65 f) a (by omega)
        have hM3 := hM2.wa (67, 267, 32) (by decide) (4 * f + s 65 f) b (by omega)
        have hM4 := hM3.wa (68, 168, 32) (by decide) (4 * f + s 65 f) c (by omega)
        have hM5 := hM4.wa (69, 169, 32) (by decide) (4 * f + s 65 f) d (by omega)
        have hM6 := hM5.wa (65, 165, 8) (by decide) f (s 65 f + 1) (by omega)
        refine ⟨_, zsc_c (zsc_c (zsc_c (zsc_c (zsc_c zsc_up)))), ((zup_j (by decide)).trans ((zup_j (by decide)).trans ((zup_j (by decide)).trans ((zup_j (by decide)).trans ((zup_j (by decide)).trans zup_s))))), _, ?_, hM6, (((((zKp_i (fun z => z (Or.inl rfl))).tr (zKp_i (fun z => z (Or.inr (by decide))))).tr (zKp_i (fun z => z (Or.inr (by decide))))).tr (zKp_i (fun z => z (Or.inr (by decide))))).tr (zKp_i (fun z => z (Or.inr (by decide))))).tr (zKp_i (fun z => z (Or.inr (by decide)))), rfl, rfl⟩
        show zm231 (some (13, 0)) (zE f) (zE a) (zE b) (zE c) (zE d) h' = _
        have e1 : zup s 0 0 0 65 f = s 65 f := rfl
        have e2 : zup (zup (zup (zup (zup s 0 0 0) 66 (4 * f + s 65 f) a) 67 (4 * f + s 65 f) b) 68 (4 * f + s 65 f) c) 69 (4 * f + s 65 f) d 65 f = s 65 f := rfl
        have ez : ∀ g : zRs Int32, zif (zE b = zE 0 ∨ zE b = zE 1) g = g := fun g => zif_s eb'
        simp (discharger := omega) only [zm231, zE_0, zE_1, zE_2, zE_3, zE_4, zE_5, zE_6, zE_7, zE_8, zE_9, zE_10, zE_11, zE_12, zE_13, zE_14, zE_neg, zE_100, m1, m2, m3, m4, ↓zb_s, z1, if_false]
        simp (discharger := omega) only [zm231_21, zE_0, zE_1, zE_2, zE_3, zE_4, zE_5, zE_6, zE_7, zE_8, zE_9, zE_10, zE_11, zE_12, zE_13, zE_14, zE_neg, z1, if_false, ↓zM_ob, ↓zMi65 hM', zE_inj, c4]
        simp (discharger := omega) only [zm231_36, zE_0, zE_1, zE_2, zE_3, zE_4, zE_5, zE_6, zE_7, zE_8, zE_9, zE_10, zE_11, zE_12, zE_13, zE_14, zE_neg, ↓zM_ob, ↓zlet_s, zMs0 hM1, zup_s, Int32.le_refl, if_true, ↓zMi65 hM1, e1, zE_mul, zE_add, ↓zMa66 hM1, ↓zMa67 hM2, ez, ↓zMa68 hM3, ↓zMa69 hM4, ↓zMi65 hM5, e2, ↓zMa65 hM5, ↓zMi65 hM6]
  · refine zexI (t := 1) hC0 hW0 (by omega) (by omega) ?_ (fun h' hM' => ?_)
    · show zm117 (some (12, 0)) (zE f) (zE a) (zE b) (zE c) (zE d) h = some (.inr 0, zro h 1 6)
      by_cases q1 : 0 ≤ f ∧ f ≤ 7
      · by_cases q2 : 0 ≤ a ∧ a ≤ 2
        · by_cases q3 : 0 ≤ c ∧ c ≤ 6
          · have q4 : ¬ (0 ≤ d ∧ d ≤ 100) := fun z => q ⟨q1, q2, q3, z⟩
            simp (discharger := omega) only [zm117, zE_0, zE_1, zE_2, zE_3, zE_4, zE_5, zE_6, zE_7, zE_8, zE_9, zE_10, zE_11, zE_12, zE_13, zE_14, zE_neg, zE_100, zc131, if_pos q1, if_pos q2, if_pos q3, if_neg q4, ↓zb_s, ↓zb_x]
          · simp (discharger := omega) only [zm117, zE_0, zE_1, zE_2, zE_3, zE_4, zE_5, zE_6, zE_7, zE_8, zE_9, zE_10, zE_11, zE_12, zE_13, zE_14, zE_neg, zE_100, zc131, if_pos q1, if_pos q2, if_neg q3, ↓zb_s, ↓zb_x]
        · simp (discharger := omega) only [zm117, zE_0, zE_1, zE_2, zE_3, zE_4, zE_5, zE_6, zE_7, zE_8, zE_9, zE_10, zE_11, zE_12, zE_13, zE_14, zE_neg, zE_100, zc131, if_pos q1, if_neg q2, ↓zb_s, ↓zb_x]
      · simp (discharger := omega) only [zm117, zE_0, zE_1, zE_2, zE_3, zE_4, zE_5, zE_6, zE_7, zE_8, zE_9, zE_10, zE_11, zE_12, zE_13, zE_14, zE_neg, zE_100, zc131, if_neg q1, ↓zb_x]
    · show zm231 (some (13, 0)) (zE f) (zE a) (zE b) (zE c) (zE d) h' = _
      have nx : zm231_21 (some (13, 0)) (zE f) (zE a) (zE b) (zE c) (zE d) (zE 0) h' = some (.inl (zE 0), zsi h' 13 0 0 (zE 1)) := by
        rw [zm231_21, if_pos zE_0.symm, zE_1]
        exact zp231_x (t := 1) (by omega) (by omega)
      obtain ⟨p1, r1, m1⟩ := m1 h'
      obtain ⟨p2, r2, m2⟩ := m2 h'
      obtain ⟨p3, r3, m3⟩ := m3 h'
      obtain ⟨p4, r4, m4⟩ := m4 h'
      rcases r1 with ⟨rfl, r1⟩ | ⟨rfl, -⟩
      · rcases r2 with ⟨rfl, r2⟩ | ⟨rfl, -⟩
        · rcases r3 with ⟨rfl, r3⟩ | ⟨rfl, -⟩
          · rcases r4 with ⟨rfl, r4⟩ | ⟨rfl, -⟩
            · exact absurd ⟨r1, r2, r3, r4⟩ q
            · simp (discharger := omega) only [zm231, zE_0, zE_1, zE_2, zE_3, zE_4, zE_5, zE_6, zE_7, zE_8, zE_9, zE_10, zE_11, zE_12, zE_13, zE_14, zE_neg, zE_100, m1, m2, m3, m4, ↓zb_s, z1, if_false, if_true, nx]
          · simp (discharger := omega) only [zm231, zE_0, zE_1, zE_2, zE_3, zE_4, zE_5, zE_6, zE_7, zE_8, zE_9, zE_10, zE_11, zE_12, zE_13, zE_14, zE_neg, zE_100, m1, m2, m3, ↓zb_s, z1, if_false, if_true, nx]
        · simp (discharger := omega) only [zm231, zE_0, zE_1, zE_2, zE_3, zE_4, zE_5, zE_6, zE_7, zE_8, zE_9, zE_10, zE_11, zE_12, zE_13, zE_14, zE_neg, zE_100, m1, m2, ↓zb_s, z1, if_false, if_true, nx]
      · simp (discharger := omega) only [zm231, zE_0, zE_1, zE_2, zE_3, zE_4, zE_5, zE_6, zE_7, zE_8, zE_9, zE_10, zE_11, zE_12, zE_13, zE_14, zE_neg, zE_100, m1, ↓zb_s, if_true, nx]
/-- die -/
theorem zw_12_12 {h : zH} {s : zS} {x : Int} (hC : zCl h s) : zCl (zsi h 12 0 12 (zE x)) (zup s 44 0 x) := by
  obtain ⟨c1, c2, c3, c4, c5, c6, c7, c8, c9, c10, c11, c12, c13, c14⟩ := hC
  obtain ⟨b1, b2, b3, b4, b5, b6, b7⟩ := c2
  exact ⟨c1, ⟨(zi_j (by decide)).trans b1, (zi_j (by decide)).trans b2, (zi_j (by decide)).trans b3, (zi_j (by decide)).trans b4, (zi_j (by decide)).trans b5, (zi_j (by decide)).trans b6, fun _ => zi_s.trans (congrArg zE zup_s.symm)⟩, c3, c4, c5, c6, c7, c8, c9, c10, c11, c12, zCM_w c13 (zKp_i (by decide)) rfl rfl rfl rfl, c14⟩
theorem zr_die {b : Int} (hb : b = 0 ∨ b = 1) : zPrV (fun h => zm81 (some (12, 0)) (zE b) h) (fun h => zm187 (some (13, 0)) (zE b) h) (fun _ => 1) 1 := by
  intro h s hC hM hW
  have z1 : ¬ zE 1 = zE 0 := by decide
  have hC0 := hC
  have hW0 := hW
  obtain ⟨cr, cs, -⟩ := hC
  obtain ⟨wA, wK, wC, wD, wP, wR, wZ, wT, wG, wE, wM, wX⟩ := hW
  by_cases e : s 43 0 = 0
  · have go : ∀ v : Int, (v = 1 ∨ v = 2) → zm81 (some (12, 0)) (zE b) h = zm81_14 (some (12, 0)) (zE v) h → (∀ h', zm187_7 (some (13, 0)) (zE b) (some (13, 0)) (zE 0) h' = zm187_17 (some (13, 0)) (zE v) (zsi h' 13 0 0 (zE 0))) → ∃ (t : Int) (s' : zS), 0 ≤ t ∧ t ≤ 1 ∧ zWf s' ∧ ((t = 0 ∧ zCct h s' (zm81 (some (12, 0)) (zE b) h) (.inl ())) ∨ (t ≠ 0 ∧ zCct h s' (zm81 (some (12, 0)) (zE b) h) (.inr 1))) ∧ ∀ h', zMd h' s → ∃ s'', zsc s' s'' ∧ s'' 0 0 = t ∧ zMct h' s'' (zm187 (some (13, 0)) (zE b) h') () := fun v hv e1 e2 => by
      have e44 : zup s 44 0 v 44 0 = v := zup_s
      refine zokV (C := fun h => zm81 (some (12, 0)) (zE b) h) (M := fun h => zm187 (some (13, 0)) (zE b) h) (ex := fun _ => 1) (s' := zup s 44 0 v) (by omega) ⟨wA, wK, wC, wD, wP, wR, wZ, wT, wG, wE, wM, wX.1, ?_, fun z => ?_, wX.2.2.2⟩ (h1 := zsi h 12 0 12 (zE v)) ?_ (zw_12_12 hC0) (zKp_i (fun z => z (by unfold zpc1; decide))) (by show zce h ≤ _; omega) (by show zso h ≤ _; omega) (fun h' hM' => ?_)
      · rw [e44]; omega
      · have z : s 43 0 = 1 := z
        omega
      · rw [e1, zm81_14, zo_12, zlet_s]
      · have hM1 := hM'.ws 0 (by decide) 0
        have hM2 := hM1.ws 44 (by decide) v
        refine ⟨_, zsc_c zsc_up, (zup_j (by decide)).trans zup_s, _, ?_, hM2, (zKp_i (fun z => z (Or.inl rfl))).tr (zKp_i (fun z => z (Or.inl rfl))), rfl, rfl⟩
        show zm187 (some (13, 0)) (zE b) h' = _
        simp (discharger := omega) only [zm187, ↓zM_ob, zMs43 hM', e, zE_0, zE_1, zE_2, zE_3, zE_4, zE_5, zE_6, zE_7, zE_8, zE_9, zE_10, zE_11, zE_12, zE_13, zE_14, zE_neg, if_true, e2, zm187_17, ↓zlet_s]
    rcases hb with rfl | rfl
    · refine go 1 (Or.inl rfl) ?_ (fun h' => ?_)
      · simp (discharger := omega) only [zm81, ↓zo_12, zCs13 cs, e, zE_0, zE_1, zE_2, zE_3, zE_4, zE_5, zE_6, zE_7, zE_8, zE_9, zE_10, zE_11, zE_12, zE_13, zE_14, zE_neg, if_true]
      · simp (discharger := omega) only [zm187_7, ↓zM_ob, ↓zlet_s, zi_s, zE_0, zE_1, zE_2, zE_3, zE_4, zE_5, zE_6, zE_7, zE_8, zE_9, zE_10, zE_11, zE_12, zE_13, zE_14, zE_neg, if_true]
    · refine go 2 (Or.inr rfl) ?_ (fun h' => ?_)
      · simp (discharger := omega) only [zm81, ↓zo_12, zCs13 cs, e, zE_0, zE_1, zE_2, zE_3, zE_4, zE_5, zE_6, zE_7, zE_8, zE_9, zE_10, zE_11, zE_12, zE_13, zE_14, zE_neg, if_true, z1, if_false]
      · simp (discharger := omega) only [zm187_7, ↓zM_ob, ↓zlet_s, zi_s, zE_0, zE_1, zE_2, zE_3, zE_4, zE_5, zE_6, zE_7, zE_8, zE_9, zE_10, zE_11, zE_12, zE_13, zE_14, zE_neg, if_true, z1, if_false]
  · refine zexV (t := 1) hC0 hW0 (by omega) (by omega) ?_ (fun h' hM' => ?_)
    · have hx := wX.1
      simp (discharger := omega) only [zm81, ↓zo_12, zCs13 cs, zE_0, zE_1, zE_2, zE_3, zE_4, zE_5, zE_6, zE_7, zE_8, zE_9, zE_10, zE_11, zE_12, zE_13, zE_14, zE_neg, zE_inj, e, if_false]
    · have hx := wX.1
      show zm187 (some (13, 0)) (zE b) h' = _
      simp (discharger := omega) only [zm187, zm187_7, ↓zM_ob, zMs43 hM', zE_0, zE_1, zE_2, zE_3, zE_4, zE_5, zE_6, zE_7, zE_8, zE_9, zE_10, zE_11, zE_12, zE_13, zE_14, zE_neg, zE_inj, e, if_false, ↓zlet_s, zi_s, z1]
