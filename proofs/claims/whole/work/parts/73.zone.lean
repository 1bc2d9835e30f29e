set_option maxRecDepth 16384
/-! zone. -/
def zzon (h : zH) (a b c d : Int) : zH := zsi (zsi (zsi (zsi (znw h 3 0 4) 3 (zct h 3) 0 (zE a)) 3 (zct h 3) 1 (zE b)) 3 (zct h 3) 2 (zE c)) 3 (zct h 3) 3 (zE d)
def zzos (s : zS) (a b c d : Int) : zS := zup (zup (zup (zup (zup s 52 (s 51 0) a) 53 (s 51 0) b) 54 (s 51 0) c) 55 (s 51 0) d) 51 0 (s 51 0 + 1)
theorem zzos_51 {s : zS} {a b c d : Int} : zzos s a b c d 51 0 = s 51 0 + 1 := zup_s
theorem zzos_n {s : zS} {a b c d : Int} : zzos s a b c d 52 (s 51 0) = a ∧ zzos s a b c d 53 (s 51 0) = b ∧ zzos s a b c d 54 (s 51 0) = c ∧ zzos s a b c d 55 (s 51 0) = d :=
  ⟨(zup_j (by decide)).trans ((zup_j (by decide)).trans ((zup_j (by decide)).trans ((zup_j (by decide)).trans zup_s))), (zup_j (by decide)).trans ((zup_j (by decide)).trans ((zup_j (by decide)).trans zup_s)), (zup_j (by decide)).trans ((zup_j (by decide)).trans zup_s), (zup_j (by decide)).trans zup_s⟩
theorem zzos_o {s : zS} {a b c d u : Int} (e : u ≠ s 51 0) : zzos s a b c d 52 u = s 52 u ∧ zzos s a b c d 53 u = s 53 u ∧ zzos s a b c d 54 u = s 54 u ∧ zzos s a b c d 55 u = s 55 u :=
  ⟨(zup_j (by decide)).trans ((zup_j (by decide)).trans ((zup_j (by decide)).trans ((zup_j (by decide)).trans (zup_a e)))), (zup_j (by decide)).trans ((zup_j (by decide)).trans ((zup_j (by decide)).trans ((zup_a e).trans (zup_j (by decide))))), (zup_j (by decide)).trans ((zup_j (by decide)).trans ((zup_a e).trans ((zup_j (by decide)).trans (zup_j (by decide))))), (zup_j (by decide)).trans ((zup_a e).trans ((zup_j (by decide)).trans ((zup_j (by decide)).trans (zup_j (by decide)))))⟩
theorem zzon_k {h : zH} {a b c d : Int} (P : Nat → Prop) (p1 : ¬ P 3) (p2 : ¬ P 17) : zKp P h (zadx (zzon h a b c d) 17 3 (zct h 3)) := fun k hp => by
  have q1 : k ≠ 3 := fun z => p1 (z ▸ hp)
  have q2 : k ≠ 17 := fun z => p2 (z ▸ hp)
  refine ⟨if_neg q1, ?_, ?_, ?_, ?_, ?_⟩
  · funext i
    exact (if_neg fun z => q2 z.1).trans (if_neg fun z => q1 z.1)
  · funext i j
    exact (if_neg fun z => q1 z.1).trans ((if_neg fun z => q1 z.1).trans ((if_neg fun z => q1 z.1).trans ((if_neg fun z => q1 z.1).trans (if_neg fun z => q1 z.1))))
  · funext i j
    exact (if_neg fun z => q2 z.1).trans (if_neg fun z => q1 z.1)
  · funext i j
    exact if_neg fun z => q1 z.1
  · funext i j
    exact if_neg fun z => q1 z.1
theorem zzon_C {h : zH} {s : zS} {a b c d : Int} (hC : zCl h s) : zCl (zadx (zzon h a b c d) 17 3 (zct h 3)) (zzos s a b c d) := by
  obtain ⟨c1, c2, c3, c4, c5, c6, c7, c8, c9, c10, c11, c12, c13, c14⟩ := hC
  obtain ⟨n1, n2, n3, n4, n5, n6, n7, n8, n9, n10, n11, n12, n13⟩ := c14
  obtain ⟨⟨t0, t1⟩, t2⟩ := c6
  refine ⟨c1, c2, c3, c4, c5, ⟨⟨t0, ?_⟩, fun u u0 u1 => ?_⟩, c7, c8, c9, c10, c11, c12, zCM_w c13 (zzon_k _ (by decide) (by decide)) rfl rfl rfl rfl, n1, n2, n3, n4, n5, n6, n7, n8, n9, ?_, n11, n12, n13⟩
  · rw [zzos_51]
    have : zln (zadx (zzon h a b c d) 17 3 (zct h 3)) 17 0 = zln h 17 0 + 1 := zln_s (h := zsr (zzon h a b c d) 17 0 (zln h 17 0) (some (3, zct h 3)))
    omega
  · rw [zzos_51] at u1
    by_cases e : u = s 51 0
    · have eu : u.toNat = zct h 3 := by omega
      have el : u.toNat = zln h 17 0 := by omega
      obtain ⟨f1, f2, f3, f4⟩ := zzos_n (s := s) (a := a) (b := b) (c := c) (d := d)
      rw [← e] at f1 f2 f3 f4
      rw [f1, f2, f3, f4]
      refine ⟨?_, ?_, ?_, ?_, ?_⟩
      · show zr (zsr (zzon h a b c d) 17 0 (zln h 17 0) (some (3, zct h 3))) 17 0 u.toNat = _
        rw [el, zr_s, ← el, eu]
      · show zi (zzon h a b c d) 3 u.toNat 0 = _
        rw [eu]
        exact (zi_j (by decide)).trans ((zi_j (by decide)).trans ((zi_j (by decide)).trans zi_s))
      · show zi (zzon h a b c d) 3 u.toNat 1 = _
        rw [eu]
        exact (zi_j (by decide)).trans ((zi_j (by decide)).trans zi_s)
      · show zi (zzon h a b c d) 3 u.toNat 2 = _
        rw [eu]
        exact (zi_j (by decide)).trans zi_s
      · show zi (zzon h a b c d) 3 u.toNat 3 = _
        rw [eu]
        exact zi_s
    · obtain ⟨p0, p1, p2, p3, p4⟩ := t2 u u0 (by omega)
      have eu : u.toNat ≠ zct h 3 := by omega
      have el : u.toNat ≠ zln h 17 0 := by omega
      obtain ⟨f1, f2, f3, f4⟩ := zzos_o (a := a) (b := b) (c := c) (d := d) e
      rw [f1, f2, f3, f4]
      have hz : ∀ j, zi (zzon h a b c d) 3 u.toNat j = zi h 3 u.toNat j := fun j => (zi_i eu).trans ((zi_i eu).trans ((zi_i eu).trans ((zi_i eu).trans (znw_i eu))))
      refine ⟨?_, (hz 0).trans p1, (hz 1).trans p2, (hz 2).trans p3, (hz 3).trans p4⟩
      show zr (zsr (zzon h a b c d) 17 0 (zln h 17 0) (some (3, zct h 3))) 17 0 u.toNat = _
      rw [zr_j el]
      exact p0
  · rw [zzos_51]
    have : zct (zadx (zzon h a b c d) 17 3 (zct h 3)) 3 = zct h 3 + 1 := zct_n (h := h) (k := 3) (n := 0) (sl := 4)
    omega
theorem zp220_x {x1 x2 x3 x4 : Int32} {t : Int} {h : zH} (t1 : 1 ≤ t) (t2 : t ≤ 2) : zm220_28 (some (13, 0)) x1 x2 x3 x4 (some (13, 0)) (zE t) h = some (.inl (zE 0), zsi h 13 0 0 (zE t)) := by
  rw [zm220_28, zM_ob, zlet_s, zM_ob, if_neg, zE_0]
  rw [zi_s, zE_0, zE_le (by omega) (by omega) (by omega) (by omega)]
  omega
theorem zr_zone (x y z w : Int32) : zPrI (fun h => zm107 (some (12, 0)) x y z w h) (fun h => zm220 (some (13, 0)) x y z w h) (fun t => if t = 1 then 0 else 1) 2 := by
  intro h s hC hM hW
  obtain ⟨a, rfl, a1, a2⟩ := zE_ex x
  obtain ⟨b, rfl, b1, b2⟩ := zE_ex y
  obtain ⟨c, rfl, c1, c2⟩ := zE_ex z
  obtain ⟨d, rfl, d1, d2⟩ := zE_ex w
  have z1 : ¬ zE 1 = zE 0 := by decide
  have cr := hC.1
  have cZ := hC.2.2.2.2.2.1
  have cN := hC.2.2.2.2.2.2.2.2.2.2.2.2.2
  have hW0 := hW
  obtain ⟨wA, wK, wC, wD, wP, wR, wZ, wT, wG, wE, wM, wX⟩ := hW
  have hn := wZ.1
  obtain ⟨pa, qa, -⟩ : ∃ pa, zbo pa (0 ≤ a ∧ a ≤ 2) ∧ True := by
    by_cases e : 0 ≤ a ∧ a ≤ 2
    · exact ⟨1, zbo_1 e, trivial⟩
    · exact ⟨0, zbo_0 e, trivial⟩
  have m1 : ∀ h', ∃ p, zbo p (0 ≤ a ∧ a ≤ 2) ∧ zm141 (zE a) h' = some (.inl (zE p), h') := fun h' => zp141 a1 a2
  have m2 : ∀ h', ∃ p, zbo p (0 ≤ b ∧ b ≤ 20000) ∧ zm139 (zE b) (zE 0) (zE 20000) h' = some (.inl (zE p), h') := fun h' => zp139i b1 b2 (by omega) (by omega) (by omega) (by omega)
  have m3 : ∀ h', ∃ p, zbo p (b ≤ c ∧ c ≤ 20000) ∧ zm139 (zE c) (zE b) (zE 20000) h' = some (.inl (zE p), h') := fun h' => zp139i c1 c2 b1 b2 (by omega) (by omega)
  have m4 : ∀ h', ∃ p, zbo p (1 ≤ d ∧ d ≤ 3) ∧ zm139 (zE d) (zE 1) (zE 3) h' = some (.inl (zE p), h') := fun h' => zp139i d1 d2 (by omega) (by omega) (by omega) (by omega)
  by_cases q : (0 ≤ a ∧ a ≤ 2) ∧ (0 ≤ b ∧ b ≤ 20000) ∧ (b ≤ c ∧ c ≤ 20000) ∧ 1 ≤ d ∧ d ≤ 3
  · obtain ⟨q1, q2, q3, q4⟩ := q
    have m1 : ∀ h', zm141 (zE a) h' = some (.inl (zE 1), h') := fun h' => by
      obtain ⟨p, p1, p2⟩ := m1 h'
      rwa [p1.u (zbo_1 q1)] at p2
    have m2 : ∀ h', zm139 (zE b) (zE 0) (zE 20000) h' = some (.inl (zE 1), h') := fun h' => by
      obtain ⟨p, p1, p2⟩ := m2 h'
      rwa [p1.u (zbo_1 q2)] at p2
    have m3 : ∀ h', zm139 (zE c) (zE b) (zE 20000) h' = some (.inl (zE 1), h') := fun h' => by
      obtain ⟨p, p1, p2⟩ := m3 h'
      rwa [p1.u (zbo_1 q3)] at p2
    have m4 : ∀ h', zm139 (zE d) (zE 1) (zE 3) h' = some (.inl (zE 1), h') := fun h' => by
      obtain ⟨p, p1, p2⟩ := m4 h'
      rwa [p1.u (zbo_1 q4)] at p2
    by_cases c6 : s 51 0 = 8
    · refine zexI (t := 2) hC hW0 (by omega) (by omega) ?_ (fun h' hM' => ?_)
      · simp (discharger := omega) only [zm107, zE_0, zE_1, zE_2, zE_3, zE_4, zE_5, zE_6, zE_7, zE_8, zE_9, zE_10, zE_11, zE_12, zE_13, zE_14, zE_neg, zE_20000, zc131, if_pos q1, if_pos q2, if_pos q3, if_pos q4, ↓zb_s, ↓zo_12, ↓zLZz cr cZ, c6, zE_lt, Int.lt_irrefl, if_false]
        rfl
      · show zm220 (some (13, 0)) (zE a) (zE b) (zE c) (zE d) h' = _
        simp (discharger := omega) only [zm220, zE_0, zE_1, zE_2, zE_3, zE_4, zE_5, zE_6, zE_7, zE_8, zE_9, zE_10, zE_11, zE_12, zE_13, zE_14, zE_neg, zE_20000, m1, m2, m3, m4, ↓zb_s, z1, if_false, ↓zM_ob, zMs51 hM', c6, if_true]
        exact zp220_x (t := 2) (by omega) (by omega)
    · have c5 : s 51 0 < 8 := by omega
      have hC' := zzon_C (a := a) (b := b) (c := c) (d := d) hC
      have hl := cZ.1.2
      have hq := cN.2.2.2.2.2.2.2.2.2.1
      obtain ⟨cc, nn, hc1, hn1, he⟩ := zladd_e (h := zzon h a b c d) (k := 17) (k2 := 3) (i2 := zct h 3) (show zln h 17 0 < 33 by omega)
      have hC2 : zCl (zladd (zzon h a b c d) 17 0 3 (zct h 3)) (zzos s a b c d) := by
        rw [he]
        exact hC'.kp zKp_o
      have hK2 : zKp (fun k => ¬ zpc1 k) h (zladd (zzon h a b c d) 17 0 3 (zct h 3)) := by
        rw [he]
        exact zKp.tr (zzon_k _ (fun z => z (by unfold zpc1; decide)) (fun z => z (by unfold zpc1; decide))) zKp_o
      have hW' : zWf (zzos s a b c d) := by
        refine ⟨wA, wK, wC, wD, wP, wR, ⟨?_, fun u u0 u1 => ?_, wZ.2.2⟩, wT, wG, wE, wM, wX⟩
        · rw [zzos_51]; omega
        · rw [zzos_51] at u1
          by_cases e : u = s 51 0
          · obtain ⟨f1, f2, f3, f4⟩ := zzos_n (s := s) (a := a) (b := b) (c := c) (d := d)
            rw [e, f1, f2, f3, f4]; omega
          · obtain ⟨f1, f2, f3, f4⟩ := zzos_o (a := a) (b := b) (c := c) (d := d) e
            rw [f1, f2, f3, f4]; exact wZ.2.1 u u0 (by omega)
      refine zokI (v := s 51 0) (by omega) hW' (h1 := zladd (zzon h a b c d) 17 0 3 (zct h 3)) ?_ hC2 hK2 ?_ ?_ (fun h' hM' => ?_)
      · have g1 : zelB (zzon h a b c d) 17 0 = true := zel_t 3 ⟨rfl, rfl⟩ fun j hj => by
          have := (cZ.2 (j : Int) (by omega) (by have : j < zln h 17 0 := hj; omega)).1
          exact this
        have g2 : zi (zzon h a b c d) 17 0 1 = 1 := cZ.1.1
        have g3 : zln (zzon h a b c d) 17 0 < 33 := show zln h 17 0 < 33 by omega
        have g4 : (zm5 (some (3, zct h 3)) (zE a) (zE b) (zE c) (zE d) (znw h 3 0 4)) = some (.inl (), zzon h a b c d) := by
          rw [zm5, znn_s, zo_3, zlet_s, zlet_s, zlet_s, zlet_s]
          rfl
        simp (discharger := omega) only [zm107, zE_0, zE_1, zE_2, zE_3, zE_4, zE_5, zE_6, zE_7, zE_8, zE_9, zE_10, zE_11, zE_12, zE_13, zE_14, zE_neg, zE_20000, zc131, if_pos q1, if_pos q2, if_pos q3, if_pos q4, ↓zb_s, ↓zo_12, ↓zLZz cr cZ, zE_lt, c5, if_true]
        rw [zlet_s, zo_3, g4, zb2_s, zCr3 cr, znn_s, znn_s, zif_s (by rw [g1]; rfl), zif_s ⟨by rw [g2, zE_1], g3⟩, zlet_s, zLZz hC2.1 hC2.2.2.2.2.2.1, zzos_51, zE_sub]
        congr 4
        omega
      · rw [he]
        show zce h + 1 + cc ≤ _
        omega
      · rw [he]
        show zso h + 4 + nn ≤ _
        omega
      · have hM1 := hM'.ws 0 (by decide) 0
        have hM2 := hM1.wa (52, 152, 8) (by decide) (s 51 0) a (by omega)
        have hM3 := hM2.wa (53, 153, 8) (by decide) (s 51 0) b (by omega)
        have hM4 := hM3.wa (54, 154, 8) (by decide) (s 51 0) c (by omega)
        have hM5 := hM4.wa (55, 155, 8) (by decide) (s 51 0) d (by omega)
        have hM6 := hM5.ws 51 (by decide) (s 51 0 + 1)
        refine ⟨_, zsc_c (zsc_c (zsc_c (zsc_c (zsc_c zsc_up)))), ((zup_j (by decide)).trans ((zup_j (by decide)).trans ((zup_j (by decide)).trans ((zup_j (by decide)).trans ((zup_j (by decide)).trans zup_s))))), _, ?_, hM6, (((((zKp_i (fun z => z (Or.inl rfl))).tr (zKp_i (fun z => z (Or.inr (by decide))))).tr (zKp_i (fun z => z (Or.inr (by decide))))).tr (zKp_i (fun z => z (Or.inr (by decide))))).tr (zKp_i (fun z => z (Or.inr (by decide))))).tr (zKp_i (fun z => z (Or.inl rfl))), rfl, rfl⟩
        show zm220 (some (13, 0)) (zE a) (zE b) (zE c) (zE d) h' = _
        have e1 : zup s 0 0 0 51 0 = s 51 0 := rfl
        have e2 : zup (zup s 0 0 0) 52 (s 51 0) a 51 0 = s 51 0 := rfl
        have e3 : zup (zup (zup s 0 0 0) 52 (s 51 0) a) 53 (s 51 0) b 51 0 = s 51 0 := rfl
        have e4 : zup (zup (zup (zup s 0 0 0) 52 (s 51 0) a) 53 (s 51 0) b) 54 (s 51 0) c 51 0 = s 51 0 := rfl
        have e5 : zup (zup (zup (zup (zup s 0 0 0) 52 (s 51 0) a) 53 (s 51 0) b) 54 (s 51 0) c) 55 (s 51 0) d 51 0 = s 51 0 := rfl
        simp (discharger := omega) only [zm220, zm220_28, ↓zM_ob, zE_0, zE_1, zE_2, zE_3, zE_4, zE_5, zE_6, zE_7, zE_8, zE_9, zE_10, zE_11, zE_12, zE_13, zE_14, zE_neg, zE_20000, m1, m2, m3, m4, ↓zb_s, z1, if_false, zMs51 hM', zE_inj, c6, ↓zlet_s, zMs0 hM1, zup_s, Int32.le_refl, if_true, zMs51 hM1, e1, ↓zMa52 hM1, zMs51 hM2, e2, ↓zMa53 hM2, zMs51 hM3, e3, ↓zMa54 hM3, zMs51 hM4, e4, ↓zMa55 hM4, zMs51 hM5, e5, zE_add, zMs51 hM6, zE_sub]
        congr 4
        omega
  · refine zexI (t := 1) hC hW0 (by omega) (by omega) ?_ (fun h' hM' => ?_)
    · show zm107 (some (12, 0)) (zE a) (zE b) (zE c) (zE d) h = some (.inr 0, zro h 1 6)
      by_cases q1 : 0 ≤ a ∧ a ≤ 2
      · by_cases q2 : 0 ≤ b ∧ b ≤ 20000
        · by_cases q3 : b ≤ c ∧ c ≤ 20000
          · have q4 : ¬ (1 ≤ d ∧ d ≤ 3) := fun z => q ⟨q1, q2, q3, z⟩
            simp (discharger := omega) only [zm107, zE_0, zE_1, zE_2, zE_3, zE_4, zE_5, zE_6, zE_7, zE_8, zE_9, zE_10, zE_11, zE_12, zE_13, zE_14, zE_neg, zE_20000, zc131, if_pos q1, if_pos q2, if_pos q3, if_neg q4, ↓zb_s, ↓zb_x]
          · simp (discharger := omega) only [zm107, zE_0, zE_1, zE_2, zE_3, zE_4, zE_5, zE_6, zE_7, zE_8, zE_9, zE_10, zE_11, zE_12, zE_13, zE_14, zE_neg, zE_20000, zc131, if_pos q1, if_pos q2, if_neg q3, ↓zb_s, ↓zb_x]
        · simp (discharger := omega) only [zm107, zE_0, zE_1, zE_2, zE_3, zE_4, zE_5, zE_6, zE_7, zE_8, zE_9, zE_10, zE_11, zE_12, zE_13, zE_14, zE_neg, zE_20000, zc131, if_pos q1, if_neg q2, ↓zb_s, ↓zb_x]
      · simp (discharger := omega) only [zm107, zE_0, zE_1, zE_2, zE_3, zE_4, zE_5, zE_6, zE_7, zE_8, zE_9, zE_10, zE_11, zE_12, zE_13, zE_14, zE_neg, zE_20000, zc131, if_neg q1, ↓zb_x]
    · show zm220 (some (13, 0)) (zE a) (zE b) (zE c) (zE d) h' = _
      obtain ⟨p1, r1, m1⟩ := m1 h'
      obtain ⟨p2, r2, m2⟩ := m2 h'
      obtain ⟨p3, r3, m3⟩ := m3 h'
      obtain ⟨p4, r4, m4⟩ := m4 h'
      rcases r1 with ⟨rfl, r1⟩ | ⟨rfl, -⟩
      · rcases r2 with ⟨rfl, r2⟩ | ⟨rfl, -⟩
        · rcases r3 with ⟨rfl, r3⟩ | ⟨rfl, -⟩
          · rcases r4 with ⟨rfl, r4⟩ | ⟨rfl, -⟩
            · exact absurd ⟨r1, r2, r3, r4⟩ q
            · simp (discharger := omega) only [zm220, zE_0, zE_1, zE_2, zE_3, zE_4, zE_5, zE_6, zE_7, zE_8, zE_9, zE_10, zE_11, zE_12, zE_13, zE_14, zE_neg, zE_20000, m1, m2, m3, m4, ↓zb_s, z1, if_false, if_true]
              exact zp220_x (t := 1) (by omega) (by omega)
          · simp (discharger := omega) only [zm220, zE_0, zE_1, zE_2, zE_3, zE_4, zE_5, zE_6, zE_7, zE_8, zE_9, zE_10, zE_11, zE_12, zE_13, zE_14, zE_neg, zE_20000, m1, m2, m3, ↓zb_s, z1, if_false, if_true]
            exact zp220_x (t := 1) (by omega) (by omega)
        · simp (discharger := omega) only [zm220, zE_0, zE_1, zE_2, zE_3, zE_4, zE_5, zE_6, zE_7, zE_8, zE_9, zE_10, zE_11, zE_12, zE_13, zE_14, zE_neg, zE_20000, m1, m2, ↓zb_s, z1, if_false, if_true]
          exact zp220_x (t := 1) (by omega) (by omega)
      · simp (discharger := omega) only [zm220, zE_0, zE_1, zE_2, zE_3, zE_4, zE_5, zE_6, zE_7, zE_8, zE_9, zE_10, zE_11, zE_12, zE_13, zE_14, zE_neg, zE_20000, m1, ↓zb_s, if_true]
        exact zp220_x (t := 1) (by omega) (by omega)
