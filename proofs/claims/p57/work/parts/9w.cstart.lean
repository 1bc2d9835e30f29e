set_option maxRecDepth 16384
/-! The start: the class (its first rows printed by a short program). -/
/-- a service's object -/
def zsvH (h : zH) (v : Nat) : zH := zsi (zsi (zsi (zsr (znw (zsr (znw (zsr (znw h 27 3 3) 9 v 0 (some (27, v))) 28 8 8) 9 v 1 (some (28, v))) 29 200 200) 9 v 2 (some (29, v))) 9 v 3 1) 9 v 4 (-1)) 9 v 5 (-1)
theorem zc24_e {h : zH} {v : Nat} (c27 : zct h 27 = v) (c28 : zct h 28 = v) (c29 : zct h 29 = v) : zm24 (some (9, v)) h = zm24_25 zN0 (some (9, v)) 0 (zsvH h v) := by
  have b28 : zct (zsr (znw h 27 3 3) 9 v 0 (some (27, v))) 28 = v := by rw [lkr_c, lkn_c, if_neg (by decide)]; exact c28
  have b29 : zct (zsr (znw (zsr (znw h 27 3 3) 9 v 0 (some (27, v))) 28 8 8) 9 v 1 (some (28, v))) 29 = v := by rw [lkr_c, lkn_c, if_neg (by decide), lkr_c, lkn_c, if_neg (by decide)]; exact c29
  rw [zm24, znn_s, zal_3, ztn_3, zlet_s, zo_9, zlet_s, c27, zal_8, ztn_8, zlet_s, zlet_s, b28, zal_200, ztn_200, zlet_s, zlet_s, b29, zlet_s, zlet_s, zlet_s]
  rfl
theorem zc24_25 {h : zH} {v : Nat} (i9 : zr h 9 v 0 = some (27, v)) (l27 : zln h 27 v = 3) (hP : zPK (3 * v) h) : ∃ h', zm24_25 zN0 (some (9, v)) (zE 0) h = some (.inl (), h') ∧ zPK (3 * v + 3) h' ∧ (∀ g, g < 3 → zr h' 27 v g = some (10, 3 * v + g)) ∧ (∀ i j, i ≠ v → zr h' 27 i j = zr h 27 i j) ∧ (zct h' 27 = zct h 27 ∧ zln h' 27 = zln h 27) ∧ zKp (fun k => k ≠ 7 ∧ k ≠ 8 ∧ k ≠ 10 ∧ k ≠ 30 ∧ k ≠ 31 ∧ k ≠ 27) h h' ∧ zce h' = zce h + 21 ∧ zso h' = zso h + 195 := by
  refine zloop0 (W := fun n i hx => zm24_25 n (some (9, v)) (zE i) hx) (N := 3) (fun i hx => zPK (3 * v + i.toNat) hx ∧ (∀ g, g < i.toNat → zr hx 27 v g = some (10, 3 * v + g)) ∧ (∀ i j, i ≠ v → zr hx 27 i j = zr h 27 i j) ∧ (zct hx 27 = zct h 27 ∧ zln hx 27 = zln h 27) ∧ zKp (fun k => k ≠ 7 ∧ k ≠ 8 ∧ k ≠ 10 ∧ k ≠ 30 ∧ k ≠ 31 ∧ k ≠ 27) h hx ∧ zce hx = zce h + 7 * i.toNat ∧ zso hx = zso h + 65 * i.toNat) (fun q => ∃ h', q = some (.inl (), h') ∧ zPK (3 * v + 3) h' ∧ (∀ g, g < 3 → zr h' 27 v g = some (10, 3 * v + g)) ∧ (∀ i j, i ≠ v → zr h' 27 i j = zr h 27 i j) ∧ (zct h' 27 = zct h 27 ∧ zln h' 27 = zln h 27) ∧ zKp (fun k => k ≠ 7 ∧ k ≠ 8 ∧ k ≠ 10 ∧ k ≠ 30 ∧ k ≠ 31 ∧ k ≠ 27) h h' ∧ zce h' = zce h + 21 ∧ zso h' = zso h + 195) h ⟨hP, fun g hg => absurd hg (Nat.not_lt_zero _), fun _ _ _ => rfl, ⟨rfl, rfl⟩, zKp.rf, rfl, rfl⟩ (by omega) (by omega) ?_ ?_
  · intro n hx ⟨q1, q2, q3, q4, q5, q6, q7⟩
    refine ⟨hx, ?_, q1, q2, q3, q4, q5, q6, q7⟩
    rw [zm24_25, if_pos (by rw [zE_3]; exact Int32.le_refl _)]
  · intro n i hx i0 i1 ⟨q1, q2, q3, q4, q5, q6, q7⟩
    have n3 : ¬ (3 : Int32) ≤ zE i := by rw [zE_3, zE_le (by omega) (by omega) (by omega) (by omega)]; omega
    obtain ⟨m, hm⟩ : ∃ m, m = 3 * v + i.toNat := ⟨_, rfl⟩
    have q1 : zPK m hx := by rw [hm]; exact q1
    obtain ⟨c10, c7, c8, c30, c31⟩ := q1.1
    have e27 := zc27 (h := znw hx 10 0 7) (n := m) (by rw [lkn_c, if_neg (by decide)]; exact c7) (by rw [lkn_c, if_neg (by decide)]; exact c8) (by rw [lkn_c, if_neg (by decide)]; exact c30) (by rw [lkn_c, if_neg (by decide)]; exact c31)
    have P1 := zPK_s q1
    obtain ⟨F1, F2, F3⟩ := zPK_f (h := hx) (n := m) (P := fun k => k ≠ 7 ∧ k ≠ 8 ∧ k ≠ 10 ∧ k ≠ 30 ∧ k ≠ 31) (fun k hk => hk)
    obtain ⟨H, hH⟩ : ∃ H, H = zspH (znw hx 10 0 7) m := ⟨_, rfl⟩
    rw [← hH] at e27 P1 F1 F2 F3
    obtain ⟨f1, f2, f3, f4, f5, f6⟩ := F1 27 (by decide)
    have r9 : zr hx 9 v 0 = some (27, v) := by rw [(q5 9 (by decide)).2.2.2.1]; exact i9
    have l27' : zln H 27 v = 3 := by rw [f2, q4.2]; exact l27
    have es : ∀ f : Nat → Nat → Nat → Nat → Nat → zRs Unit, zas (zr hx 9 v 0) (some (10, m)) (zE i) H f = f 27 v 10 m i.toNat := fun f => zas_s r9 rfl rfl l27' i0 (by omega) (by omega)
    refine Or.inr ⟨zsr H 27 v i.toNat (some (10, m)), ⟨?_, ?_, ?_, ⟨?_, ?_⟩, ?_, ?_, ?_⟩, ?_⟩
    · rw [show 3 * v + (i + 1).toNat = m + 1 by omega]
      exact P1.kp fun k hk => zKp_r (P := fun k => k ≠ 27) (fun z => z rfl) k (by omega)
    · intro g hg
      rw [lkr_r]
      by_cases c : g = i.toNat
      · rw [if_pos ⟨rfl, rfl, c⟩, c, hm]
      · rw [if_neg (fun z => c z.2.2), f4]
        exact q2 g (by omega)
    · intro a j ha
      rw [lkr_r, if_neg (fun z => ha z.2.1), f4]
      exact q3 a j ha
    · exact f1.trans q4.1
    · exact f2.trans q4.2
    · exact q5.tr ((F1.mn fun k hk => ⟨hk.1, hk.2.1, hk.2.2.1, hk.2.2.2.1, hk.2.2.2.2.1⟩).tr (zKp_r (fun z => z.2.2.2.2.2 rfl)))
    · show zce H = _
      omega
    · show zso H = _
      omega
    · show zm24_25 (n + 1) (some (9, v)) (zE i) hx = zm24_25 n (some (9, v)) (zE (i + 1)) _
      rw [zm24_25, if_neg n3, zo_9, zlet_s, c10, zo_10, e27, zb2_s, es, zlet_s, zE_1, zE_add, zlet_s]
def zFq9 (h : zH) (u : Nat) : Prop := zr h 9 u 0 = some (27, u) ∧ zr h 9 u 1 = some (28, u) ∧ zr h 9 u 2 = some (29, u) ∧ zln h 27 u = 3 ∧ zln h 28 u = 8 ∧ zln h 29 u = 200 ∧ (∀ g, g < 3 → zr h 27 u g = some (10, 3 * u + g)) ∧ (∀ k, zi h 28 u k = 0) ∧ (∀ c, zr h 29 u c = none) ∧ zi h 9 u 3 = 1 ∧ zi h 9 u 4 = -1 ∧ zi h 9 u 5 = -1 ∧ zi h 9 u 6 = 0 ∧ zi h 9 u 7 = 0
def zPV (v : Nat) (h : zH) : Prop := (zct h 9 = v ∧ zct h 27 = v ∧ zct h 28 = v ∧ zct h 29 = v) ∧ zPK (3 * v) h ∧ ∀ u, u < v → zFq9 h u
def zkq9 (k : Nat) : Prop := k ≠ 7 ∧ k ≠ 8 ∧ k ≠ 9 ∧ k ≠ 10 ∧ k ≠ 27 ∧ k ≠ 28 ∧ k ≠ 29 ∧ k ≠ 30 ∧ k ≠ 31
theorem zPV.kp {v : Nat} {h h' : zH} (hP : zPV v h) (e : ∀ k, ¬ zkq9 k → zct h' k = zct h k ∧ zln h' k = zln h k ∧ zi h' k = zi h k ∧ zr h' k = zr h k ∧ zd h' k = zd h k ∧ zl h' k = zl h k) : zPV v h' := by
  obtain ⟨p1, p2, p3⟩ := hP
  have n : ∀ k, (k = 7 ∨ k = 8 ∨ k = 9 ∨ k = 10 ∨ k = 27 ∨ k = 28 ∨ k = 29 ∨ k = 30 ∨ k = 31) → ¬ zkq9 k := fun k hk z => by
    unfold zkq9 at z
    omega
  obtain ⟨a1, a2, a3, a4, -⟩ := e 9 (n 9 (by decide))
  obtain ⟨b1, b2, b3, b4, -⟩ := e 27 (n 27 (by decide))
  obtain ⟨c1, c2, c3, c4, -⟩ := e 28 (n 28 (by decide))
  obtain ⟨d1, d2, d3, d4, -⟩ := e 29 (n 29 (by decide))
  refine ⟨by rw [a1, b1, c1, d1]; exact p1, p2.kp fun k hk => e k (n k (by omega)), fun u hu => ?_⟩
  have := p3 u hu
  unfold zFq9 at this ⊢
  rw [a3, a4, b2, b4, c2, c3, d2, d4]
  exact this
theorem zPV_s {v : Nat} {h : zH} (hP : zPV v h) : ∃ h', zm24 (some (9, v)) (znw h 9 0 8) = some (.inl (), h') ∧ zPV (v + 1) h' ∧ zKp zkq9 h h' ∧ zce h' = zce h + 25 ∧ zso h' = zso h + 414 := by
  obtain ⟨⟨c9, c27, c28, c29⟩, pK, p9⟩ := hP
  have e24 := zc24_e (h := znw h 9 0 8) (v := v) (by rw [lkn_c, if_neg (by decide)]; exact c27) (by rw [lkn_c, if_neg (by decide)]; exact c28) (by rw [lkn_c, if_neg (by decide)]; exact c29)
  have K0 : zKp (fun k => k ≠ 9 ∧ k ≠ 27 ∧ k ≠ 28 ∧ k ≠ 29) h (zsvH (znw h 9 0 8) v) := (zKp_nw (fun z => z.1 rfl)).tr ((zKp_nw (fun z => z.2.1 rfl)).tr ((zKp_r (fun z => z.1 rfl)).tr ((zKp_nw (fun z => z.2.2.1 rfl)).tr ((zKp_r (fun z => z.1 rfl)).tr ((zKp_nw (fun z => z.2.2.2 rfl)).tr ((zKp_r (fun z => z.1 rfl)).tr ((zKp_i (fun z => z.1 rfl)).tr ((zKp_i (fun z => z.1 rfl)).tr (zKp_i (fun z => z.1 rfl))))))))))
  have z0 : zce (zsvH (znw h 9 0 8) v) = zce h + 4 := by
    show zce h + 1 + 1 + 1 + 1 = _
    omega
  have z1 : zso (zsvH (znw h 9 0 8) v) = zso h + 219 := by
    show zso h + 8 + 3 + 8 + 200 = _
    omega
  -- what the new object holds
  have N : (∀ u, u < v → zFq9 h u → zr (zsvH (znw h 9 0 8) v) 9 u 0 = some (27, u) ∧ zr (zsvH (znw h 9 0 8) v) 9 u 1 = some (28, u) ∧ zr (zsvH (znw h 9 0 8) v) 9 u 2 = some (29, u) ∧ zln (zsvH (znw h 9 0 8) v) 27 u = 3 ∧ zln (zsvH (znw h 9 0 8) v) 28 u = 8 ∧ zln (zsvH (znw h 9 0 8) v) 29 u = 200 ∧ (∀ g, g < 3 → zr (zsvH (znw h 9 0 8) v) 27 u g = some (10, 3 * u + g)) ∧ (∀ k, zi (zsvH (znw h 9 0 8) v) 28 u k = 0) ∧ (∀ c, zr (zsvH (znw h 9 0 8) v) 29 u c = none) ∧ zi (zsvH (znw h 9 0 8) v) 9 u 3 = 1 ∧ zi (zsvH (znw h 9 0 8) v) 9 u 4 = -1 ∧ zi (zsvH (znw h 9 0 8) v) 9 u 5 = -1 ∧ zi (zsvH (znw h 9 0 8) v) 9 u 6 = 0 ∧ zi (zsvH (znw h 9 0 8) v) 9 u 7 = 0) := fun u hu hF => by
    have e1 : (u = v) = False := eq_false (by omega)
    unfold zFq9 at hF
    simp only [zsvH, lkn_c, lkn_l, lkn_i, lkn_r, lki_c, lki_l, lki_i, lki_r, lkr_c, lkr_l, lkr_i, lkr_r, c9, c27, c28, c29, e1, reduceIte, Nat.reduceEqDiff, and_true, true_and, and_false, false_and, and_self]
    exact hF
  have M : zr (zsvH (znw h 9 0 8) v) 9 v 0 = some (27, v) ∧ zr (zsvH (znw h 9 0 8) v) 9 v 1 = some (28, v) ∧ zr (zsvH (znw h 9 0 8) v) 9 v 2 = some (29, v) ∧ zln (zsvH (znw h 9 0 8) v) 27 v = 3 ∧ zln (zsvH (znw h 9 0 8) v) 28 v = 8 ∧ zln (zsvH (znw h 9 0 8) v) 29 v = 200 ∧ (∀ k, zi (zsvH (znw h 9 0 8) v) 28 v k = 0) ∧ (∀ c, zr (zsvH (znw h 9 0 8) v) 29 v c = none) ∧ zi (zsvH (znw h 9 0 8) v) 9 v 3 = 1 ∧ zi (zsvH (znw h 9 0 8) v) 9 v 4 = -1 ∧ zi (zsvH (znw h 9 0 8) v) 9 v 5 = -1 ∧ zi (zsvH (znw h 9 0 8) v) 9 v 6 = 0 ∧ zi (zsvH (znw h 9 0 8) v) 9 v 7 = 0 := by
    simp only [zsvH, lkn_c, lkn_l, lkn_i, lkn_r, lki_c, lki_l, lki_i, lki_r, lkr_c, lkr_l, lkr_i, lkr_r, c9, c27, c28, c29, reduceIte, Nat.reduceEqDiff, and_true, true_and, and_false, false_and, and_self, implies_true]
  have C : zct (zsvH (znw h 9 0 8) v) 9 = v + 1 ∧ zct (zsvH (znw h 9 0 8) v) 27 = v + 1 ∧ zct (zsvH (znw h 9 0 8) v) 28 = v + 1 ∧ zct (zsvH (znw h 9 0 8) v) 29 = v + 1 := by
    simp only [zsvH, lkn_c, lki_c, lkr_c, c9, c27, c28, c29, reduceIte, Nat.reduceEqDiff, and_self]
  generalize hH : zsvH (znw h 9 0 8) v = H at *
  obtain ⟨m1, m2, m3, m4, m5, m6, m7, m8, m9⟩ := M
  obtain ⟨h', a1, a2, a3, a4, a5, a6, a7, a8⟩ := zc24_25 m1 m4 (pK.kp fun k hk => K0 k (by omega))
  obtain ⟨b1, b2, b3, b4, -⟩ := a6 9 (by decide)
  obtain ⟨d1, d2, d3, d4, -⟩ := a6 28 (by decide)
  obtain ⟨f1, f2, f3, f4, -⟩ := a6 29 (by decide)
  refine ⟨h', by rw [e24, zE_0, a1], ⟨⟨by rw [b1]; exact C.1, by rw [a5.1]; exact C.2.1, by rw [d1]; exact C.2.2.1, by rw [f1]; exact C.2.2.2⟩, by rw [show 3 * (v + 1) = 3 * v + 3 by omega]; exact a2, fun u hu => ?_⟩, (K0.mn fun k hk => ?_).tr (a6.mn fun k hk => ?_), by omega, by omega⟩
  · unfold zFq9
    rw [b3, b4, a5.2, d2, d3, f2, f4]
    by_cases c : u = v
    · rw [c]
      exact ⟨m1, m2, m3, m4, m5, m6, a3, m7, m8, m9⟩
    · obtain ⟨n1, n2, n3, n4, n5, n6, n7, n8⟩ := N u (by omega) (p9 u (by omega))
      exact ⟨n1, n2, n3, n4, n5, n6, fun g hg => (a4 u g c).trans (n7 g hg), n8⟩
  · unfold zkq9 at hk
    show k ≠ 9 ∧ k ≠ 27 ∧ k ≠ 28 ∧ k ≠ 29
    omega
  · unfold zkq9 at hk
    show k ≠ 7 ∧ k ≠ 8 ∧ k ≠ 10 ∧ k ≠ 30 ∧ k ≠ 31 ∧ k ≠ 27
    omega
theorem zc39_57 {h : zH} {k : zq → zH → zRs Unit} (hP : zPV 0 h) (r6 : zr h 12 0 6 = some (33, 0)) (l33 : zln h 33 0 = 4) : ∃ h', zm39_57 k zN0 (some (12, 0)) (zE 0) h = k (some (12, 0)) h' ∧ zPV 4 h' ∧ (∀ u, u < 4 → zr h' 33 0 u = some (9, u)) ∧ zln h' 33 = zln h 33 ∧ zKp (fun k => zkq9 k ∧ k ≠ 33) h h' ∧ zce h' = zce h + 100 ∧ zso h' = zso h + 1656 := by
  refine zloop0 (W := fun n i hx => zm39_57 k n (some (12, 0)) (zE i) hx) (N := 4) (fun i hx => zPV i.toNat hx ∧ (∀ u, u < i.toNat → zr hx 33 0 u = some (9, u)) ∧ zln hx 33 = zln h 33 ∧ zKp (fun k => zkq9 k ∧ k ≠ 33) h hx ∧ zce hx = zce h + 25 * i.toNat ∧ zso hx = zso h + 414 * i.toNat) (fun q => ∃ h', q = k (some (12, 0)) h' ∧ zPV 4 h' ∧ (∀ u, u < 4 → zr h' 33 0 u = some (9, u)) ∧ zln h' 33 = zln h 33 ∧ zKp (fun k => zkq9 k ∧ k ≠ 33) h h' ∧ zce h' = zce h + 100 ∧ zso h' = zso h + 1656) h ⟨hP, fun g hg => absurd hg (Nat.not_lt_zero _), rfl, zKp.rf, rfl, rfl⟩ (by omega) (by omega) ?_ ?_
  · intro n hx ⟨q1, q2, q3, q4, q5, q6⟩
    refine ⟨hx, ?_, q1, q2, q3, q4, q5, q6⟩
    rw [zm39_57, if_pos (by rw [zE_4]; exact Int32.le_refl _)]
  · intro n i hx i0 i1 ⟨q1, q2, q3, q4, q5, q6⟩
    have n3 : ¬ (4 : Int32) ≤ zE i := by rw [zE_4, zE_le (by omega) (by omega) (by omega) (by omega)]; omega
    obtain ⟨H, a1, a2, a3, a4, a5⟩ := zPV_s q1
    have c9 := q1.1.1
    obtain ⟨f1, f2, f3, f4, -⟩ := a3 33 (by unfold zkq9; decide)
    have r6' : zr hx 12 0 6 = some (33, 0) := by rw [(q4 12 (by unfold zkq9; decide)).2.2.2.1]; exact r6
    have es : ∀ f : Nat → Nat → Nat → Nat → Nat → zRs Unit, zas (zr hx 12 0 6) (some (9, i.toNat)) (zE i) H f = f 33 0 9 i.toNat i.toNat := fun f => zas_s (n := 4) r6' rfl rfl (by rw [f2, q3]; exact l33) i0 (by omega) (by omega)
    refine Or.inr ⟨zsr H 33 0 i.toNat (some (9, i.toNat)), ⟨?_, ?_, ?_, ?_, ?_, ?_⟩, ?_⟩
    · rw [show (i + 1).toNat = i.toNat + 1 by omega]
      exact a2.kp fun k hk => zKp_r (P := fun k => k ≠ 33) (fun z => z rfl) k (fun z => hk (by rw [z]; unfold zkq9; decide))
    · intro g hg
      rw [lkr_r]
      by_cases c : g = i.toNat
      · rw [if_pos ⟨rfl, rfl, c⟩, c]
      · rw [if_neg (fun z => c z.2.2), f4]
        exact q2 g (by omega)
    · exact f2.trans q3
    · exact q4.tr ((a3.mn fun k hk => hk.1).tr (zKp_r (fun z => z.2 rfl)))
    · show zce H = _
      omega
    · show zso H = _
      omega
    · show zm39_57 k (n + 1) (some (12, 0)) (zE i) hx = zm39_57 k n (some (12, 0)) (zE (i + 1)) _
      rw [zm39_57, if_neg n3, zo_12, zlet_s, c9, zo_9, a1, zb2_s, es, zlet_s, zE_1, zE_add, zlet_s]
/-- a flag is made -/
def zflH (h : zH) (f : Nat) : zH := zsi (zsr (zsi (znw (znw h 2 0 5) 20 0 3) 20 f 1 1) 2 f 0 (some (20, f))) 2 f 2 (-1)
theorem zls_c {h : zH} {k : Nat} {i : Nat} (c : zct h k = i) : zi (znw h k 0 3) k i 1 = 0 ∧ zln (znw h k 0 3) k i = 0 := by
  rw [lkn_i, lkn_l, c]
  exact ⟨if_pos ⟨rfl, rfl⟩, if_pos ⟨rfl, rfl⟩⟩
theorem zc4 {h : zH} {f : Nat} (c20 : zct h 20 = f) : zm4 (some (2, f)) (znw h 2 0 5) = some (.inl (), zflH h f) := by
  have b20 : zct (znw h 2 0 5) 20 = f := by rw [lkn_c, if_neg (by decide)]; exact c20
  have ho : ∀ g : Nat → Nat → zRs Unit, zob 2 (some (2, f)) g = g 2 f := fun g => rfl
  rw [zm4, znn_s, zlet_s, b20, znn_s, zif_s (show (ztg 20 == 9) = true from rfl), zif_s (zls_c b20), zlet_s, ho, zlet_s, zlet_s]
  rfl
def zFf2 (h : zH) (f : Nat) : Prop := zr h 34 0 f = some (2, f) ∧ zr h 2 f 0 = some (20, f) ∧ zi h 2 f 1 = 0 ∧ zi h 2 f 2 = -1 ∧ zi h 2 f 3 = 0 ∧ zi h 2 f 4 = 0 ∧ zi h 20 f 1 = 1 ∧ zln h 20 f = 0
theorem zc39_71 {h : zH} (c2 : zct h 2 = 0) (c20 : zct h 20 = 0) (r7 : zr h 12 0 7 = some (34, 0)) (l34 : zln h 34 0 = 8) : ∃ h', zm39_71 zN0 (some (12, 0)) (zE 0) h = some (.inl (), h') ∧ (∀ f, f < 8 → zFf2 h' f) ∧ zln h' 34 = zln h 34 ∧ zKp (fun k => k ≠ 2 ∧ k ≠ 20 ∧ k ≠ 34) h h' ∧ zce h' = zce h + 16 ∧ zso h' = zso h + 64 := by
  refine zloop0 (W := fun n i hx => zm39_71 n (some (12, 0)) (zE i) hx) (N := 8) (fun i hx => (zct hx 2 = i.toNat ∧ zct hx 20 = i.toNat) ∧ (∀ f, f < i.toNat → zFf2 hx f) ∧ zln hx 34 = zln h 34 ∧ zKp (fun k => k ≠ 2 ∧ k ≠ 20 ∧ k ≠ 34) h hx ∧ zce hx = zce h + 2 * i.toNat ∧ zso hx = zso h + 8 * i.toNat) (fun q => ∃ h', q = some (.inl (), h') ∧ (∀ f, f < 8 → zFf2 h' f) ∧ zln h' 34 = zln h 34 ∧ zKp (fun k => k ≠ 2 ∧ k ≠ 20 ∧ k ≠ 34) h h' ∧ zce h' = zce h + 16 ∧ zso h' = zso h + 64) h ⟨⟨c2, c20⟩, fun g hg => absurd hg (Nat.not_lt_zero _), rfl, zKp.rf, rfl, rfl⟩ (by omega) (by omega) ?_ ?_
  · intro n hx ⟨q1, q2, q3, q4, q5, q6⟩
    refine ⟨hx, ?_, q2, q3, q4, q5, q6⟩
    rw [zm39_71, if_pos (by rw [zE_8]; exact Int32.le_refl _)]
  · intro n i hx i0 i1 ⟨q1, q2, q3, q4, q5, q6⟩
    have n3 : ¬ (8 : Int32) ≤ zE i := by rw [zE_8, zE_le (by omega) (by omega) (by omega) (by omega)]; omega
    obtain ⟨f, hf⟩ : ∃ f, f = i.toNat := ⟨_, rfl⟩
    rw [← hf] at q1 q2 q5 q6
    obtain ⟨c2, c20⟩ := q1
    have e4 := zc4 (h := hx) c20
    have r7' : zr hx 12 0 7 = some (34, 0) := by rw [(q4 12 (by decide)).2.2.2.1]; exact r7
    have K0 : zKp (fun k => k ≠ 2 ∧ k ≠ 20) hx (zflH hx f) := (zKp_nw (fun z => z.1 rfl)).tr ((zKp_nw (fun z => z.2 rfl)).tr ((zKp_i (fun z => z.2 rfl)).tr ((zKp_r (fun z => z.1 rfl)).tr (zKp_i (fun z => z.1 rfl)))))
    obtain ⟨f1, f2, f3, f4, -⟩ := K0 34 (by decide)
    have es : ∀ g : Nat → Nat → Nat → Nat → Nat → zRs Unit, zas (zr hx 12 0 7) (some (2, f)) (zE i) (zflH hx f) g = g 34 0 2 f f := fun g => by
      rw [hf]
      exact zas_s (n := 8) r7' rfl rfl (by rw [← hf, f2, q3]; exact l34) i0 (by omega) (by omega)
    have ho : ∀ g : Nat → Nat → zRs Unit, zob 2 (some (2, f)) g = g 2 f := fun g => rfl
    refine Or.inr ⟨zsr (zflH hx f) 34 0 f (some (2, f)), ⟨⟨?_, ?_⟩, ?_, ?_, ?_, ?_, ?_⟩, ?_⟩
    · rw [show (i + 1).toNat = f + 1 by omega]
      simp only [zflH, lkn_c, lki_c, lkr_c, c2, reduceIte, Nat.reduceEqDiff]
    · rw [show (i + 1).toNat = f + 1 by omega]
      simp only [zflH, lkn_c, lki_c, lkr_c, c20, reduceIte, Nat.reduceEqDiff]
    · intro g hg
      by_cases c : g = f
      · subst c
        unfold zFf2
        simp only [zflH, lkn_c, lkn_l, lkn_i, lkn_r, lki_c, lki_l, lki_i, lki_r, lkr_c, lkr_l, lkr_i, lkr_r, c2, c20, reduceIte, Nat.reduceEqDiff, and_true, true_and, and_false, false_and, and_self]
      · have e1 : (g = f) = False := eq_false c
        have := q2 g (by omega)
        unfold zFf2 at this ⊢
        simp only [zflH, lkn_c, lkn_l, lkn_i, lkn_r, lki_c, lki_l, lki_i, lki_r, lkr_c, lkr_l, lkr_i, lkr_r, c2, c20, e1, reduceIte, Nat.reduceEqDiff, and_true, true_and, and_false, false_and, and_self]
        exact this
    · exact f2.trans q3
    · exact q4.tr ((K0.mn fun k hk => ⟨hk.1, hk.2.1⟩).tr (zKp_r (fun z => z.2.2 rfl)))
    · show zce hx + 1 + 1 = _
      omega
    · show zso hx + 5 + 3 = _
      omega
    · show zm39_71 (n + 1) (some (12, 0)) (zE i) hx = zm39_71 n (some (12, 0)) (zE (i + 1)) _
      rw [zm39_71, if_neg n3, zo_12, zlet_s, c2, ho, e4, zb2_s, es, zlet_s, zE_1, zE_add, zlet_s]
/-- the class's lists and arrays -/
def zlsH (h : zH) (k j : Nat) : zH := zsr (zsi (znw h k 0 3) k 0 1 1) 12 0 j (some (k, 0))
def zarH (h : zH) (k n j : Nat) : zH := zsr (znw h k n n) 12 0 j (some (k, 0))
theorem zlsH_c {h : zH} {k j k' : Nat} : zct (zlsH h k j) k' = if k' = k then zct h k + 1 else zct h k' := rfl
theorem zarH_c {h : zH} {k n j k' : Nat} : zct (zarH h k n j) k' = if k' = k then zct h k + 1 else zct h k' := rfl
def zpreH (h : zH) : zH := zsi (zarH (zarH (zarH (zarH (zarH (zlsH (zlsH (zlsH (zlsH (zlsH (zlsH h 14 0) 15 1) 16 2) 17 3) 18 4) 19 5) 33 4 6) 34 8 7) 35 3 8) 36 3 9) 37 200 10) 12 0 12 0
theorem zal_3b {α : Type} (f : Option α) : (if (3 : Int32) < 0 ∨ 100000 < 3 then none else f) = f := if_neg (by decide)
theorem zc39_e {h : zH} (c : ∀ k, k ≠ 12 → zct h k = 0) : zm39 (some (12, 0)) h = zm39_57 zm39_69 zN0 (some (12, 0)) 0 (zpreH h) := by
  have c14 : zct h 14 = 0 := c 14 (by decide)
  have c15 : zct (zlsH h 14 0) 15 = 0 := by
    simp only [zlsH_c, zarH_c, reduceIte, Nat.reduceEqDiff]
    exact c 15 (by decide)
  have c16 : zct (zlsH (zlsH h 14 0) 15 1) 16 = 0 := by
    simp only [zlsH_c, zarH_c, reduceIte, Nat.reduceEqDiff]
    exact c 16 (by decide)
  have c17 : zct (zlsH (zlsH (zlsH h 14 0) 15 1) 16 2) 17 = 0 := by
    simp only [zlsH_c, zarH_c, reduceIte, Nat.reduceEqDiff]
    exact c 17 (by decide)
  have c18 : zct (zlsH (zlsH (zlsH (zlsH h 14 0) 15 1) 16 2) 17 3) 18 = 0 := by
    simp only [zlsH_c, zarH_c, reduceIte, Nat.reduceEqDiff]
    exact c 18 (by decide)
  have c19 : zct (zlsH (zlsH (zlsH (zlsH (zlsH h 14 0) 15 1) 16 2) 17 3) 18 4) 19 = 0 := by
    simp only [zlsH_c, zarH_c, reduceIte, Nat.reduceEqDiff]
    exact c 19 (by decide)
  have c33 : zct (zlsH (zlsH (zlsH (zlsH (zlsH (zlsH h 14 0) 15 1) 16 2) 17 3) 18 4) 19 5) 33 = 0 := by
    simp only [zlsH_c, zarH_c, reduceIte, Nat.reduceEqDiff]
    exact c 33 (by decide)
  have c34 : zct (zarH (zlsH (zlsH (zlsH (zlsH (zlsH (zlsH h 14 0) 15 1) 16 2) 17 3) 18 4) 19 5) 33 4 6) 34 = 0 := by
    simp only [zlsH_c, zarH_c, reduceIte, Nat.reduceEqDiff]
    exact c 34 (by decide)
  have c35 : zct (zarH (zarH (zlsH (zlsH (zlsH (zlsH (zlsH (zlsH h 14 0) 15 1) 16 2) 17 3) 18 4) 19 5) 33 4 6) 34 8 7) 35 = 0 := by
    simp only [zlsH_c, zarH_c, reduceIte, Nat.reduceEqDiff]
    exact c 35 (by decide)
  have c36 : zct (zarH (zarH (zarH (zlsH (zlsH (zlsH (zlsH (zlsH (zlsH h 14 0) 15 1) 16 2) 17 3) 18 4) 19 5) 33 4 6) 34 8 7) 35 3 8) 36 = 0 := by
    simp only [zlsH_c, zarH_c, reduceIte, Nat.reduceEqDiff]
    exact c 36 (by decide)
  have c37 : zct (zarH (zarH (zarH (zarH (zlsH (zlsH (zlsH (zlsH (zlsH (zlsH h 14 0) 15 1) 16 2) 17 3) 18 4) 19 5) 33 4 6) 34 8 7) 35 3 8) 36 3 9) 37 = 0 := by
    simp only [zlsH_c, zarH_c, reduceIte, Nat.reduceEqDiff]
    exact c 37 (by decide)
  rw [zm39, znn_s, zlet_s, c14, znn_s, zif_s (show (ztg 14 == 9) = true from rfl), zif_s (zls_c c14), zlet_s, zo_12, zlet_s, show zsr (zsi (znw h 14 0 3) 14 0 1 1) 12 0 0 (some (14, 0)) = (zlsH h 14 0) from rfl, zlet_s, c15, znn_s, zif_s (show (ztg 15 == 9) = true from rfl), zif_s (zls_c c15), zlet_s, zlet_s, show zsr (zsi (znw (zlsH h 14 0) 15 0 3) 15 0 1 1) 12 0 1 (some (15, 0)) = (zlsH (zlsH h 14 0) 15 1) from rfl, zlet_s, c16, znn_s, zif_s (show (ztg 16 == 9) = true from rfl), zif_s (zls_c c16), zlet_s, zlet_s, show zsr (zsi (znw (zlsH (zlsH h 14 0) 15 1) 16 0 3) 16 0 1 1) 12 0 2 (some (16, 0)) = (zlsH (zlsH (zlsH h 14 0) 15 1) 16 2) from rfl, zlet_s, c17, znn_s, zif_s (show (ztg 17 == 9) = true from rfl), zif_s (zls_c c17), zlet_s, zlet_s, show zsr (zsi (znw (zlsH (zlsH (zlsH h 14 0) 15 1) 16 2) 17 0 3) 17 0 1 1) 12 0 3 (some (17, 0)) = (zlsH (zlsH (zlsH (zlsH h 14 0) 15 1) 16 2) 17 3) from rfl, zlet_s, c18, znn_s, zif_s (show (ztg 18 == 9) = true from rfl), zif_s (zls_c c18), zlet_s, zlet_s, show zsr (zsi (znw (zlsH (zlsH (zlsH (zlsH h 14 0) 15 1) 16 2) 17 3) 18 0 3) 18 0 1 1) 12 0 4 (some (18, 0)) = (zlsH (zlsH (zlsH (zlsH (zlsH h 14 0) 15 1) 16 2) 17 3) 18 4) from rfl, zlet_s, c19, znn_s, zif_s (show (ztg 19 == 9) = true from rfl), zif_s (zls_c c19), zlet_s, zlet_s, show zsr (zsi (znw (zlsH (zlsH (zlsH (zlsH (zlsH h 14 0) 15 1) 16 2) 17 3) 18 4) 19 0 3) 19 0 1 1) 12 0 5 (some (19, 0)) = (zlsH (zlsH (zlsH (zlsH (zlsH (zlsH h 14 0) 15 1) 16 2) 17 3) 18 4) 19 5) from rfl, zal_4, ztn_4, zlet_s, c33, zlet_s, show zsr (znw (zlsH (zlsH (zlsH (zlsH (zlsH (zlsH h 14 0) 15 1) 16 2) 17 3) 18 4) 19 5) 33 4 4) 12 0 6 (some (33, 0)) = (zarH (zlsH (zlsH (zlsH (zlsH (zlsH (zlsH h 14 0) 15 1) 16 2) 17 3) 18 4) 19 5) 33 4 6) from rfl, zal_8, ztn_8, zlet_s, c34, zlet_s, show zsr (znw (zarH (zlsH (zlsH (zlsH (zlsH (zlsH (zlsH h 14 0) 15 1) 16 2) 17 3) 18 4) 19 5) 33 4 6) 34 8 8) 12 0 7 (some (34, 0)) = (zarH (zarH (zlsH (zlsH (zlsH (zlsH (zlsH (zlsH h 14 0) 15 1) 16 2) 17 3) 18 4) 19 5) 33 4 6) 34 8 7) from rfl, zal_3, ztn_3, zlet_s, c35, zlet_s, show zsr (znw (zarH (zarH (zlsH (zlsH (zlsH (zlsH (zlsH (zlsH h 14 0) 15 1) 16 2) 17 3) 18 4) 19 5) 33 4 6) 34 8 7) 35 3 3) 12 0 8 (some (35, 0)) = (zarH (zarH (zarH (zlsH (zlsH (zlsH (zlsH (zlsH (zlsH h 14 0) 15 1) 16 2) 17 3) 18 4) 19 5) 33 4 6) 34 8 7) 35 3 8) from rfl, zal_3b, zlet_s, c36, zlet_s, show zsr (znw (zarH (zarH (zarH (zlsH (zlsH (zlsH (zlsH (zlsH (zlsH h 14 0) 15 1) 16 2) 17 3) 18 4) 19 5) 33 4 6) 34 8 7) 35 3 8) 36 3 3) 12 0 9 (some (36, 0)) = (zarH (zarH (zarH (zarH (zlsH (zlsH (zlsH (zlsH (zlsH (zlsH h 14 0) 15 1) 16 2) 17 3) 18 4) 19 5) 33 4 6) 34 8 7) 35 3 8) 36 3 9) from rfl, zal_200, ztn_200, zlet_s, c37, zlet_s, show zsr (znw (zarH (zarH (zarH (zarH (zlsH (zlsH (zlsH (zlsH (zlsH (zlsH h 14 0) 15 1) 16 2) 17 3) 18 4) 19 5) 33 4 6) 34 8 7) 35 3 8) 36 3 9) 37 200 200) 12 0 10 (some (37, 0)) = (zarH (zarH (zarH (zarH (zarH (zlsH (zlsH (zlsH (zlsH (zlsH (zlsH h 14 0) 15 1) 16 2) 17 3) 18 4) 19 5) 33 4 6) 34 8 7) 35 3 8) 36 3 9) 37 200 10) from rfl, zlet_s]
  rfl

