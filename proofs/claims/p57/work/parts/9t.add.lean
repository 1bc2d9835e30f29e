set_option maxRecDepth 16384
/-! measure: one more is written. -/
/-- the class writes one more -/
theorem zc19_26 {h : zH} {s : zS} {w b β m : Int} {cd : Int → Nat × Nat} (h1 : ∀ w w' : Int, 0 ≤ w → w < 24 → 0 ≤ w' → w' < 24 → cd w = cd w' → w = w') (h2 : ∀ w, 0 ≤ w → w < 24 → zCMw h s cd w) (hl : s 47 w < (zln h (cd w).1 (cd w).2 : Int)) (w0 : 0 ≤ w) (w1 : w < 24) (hn : 0 ≤ s 47 w ∧ s 47 w < 600) (hu : ∀ u, 0 ≤ u → u < 24 → 0 ≤ s 47 u ∧ s 47 u ≤ 600) (hb : b = 0 ∨ b = 1) (hβ : β = zbk m) (m0 : 0 ≤ m) (m1 : m ≤ 60000) : ∃ h', zm19_26 (some (zsk w, (w / 2).toNat)) (zE b) (zE β) h = some (.inl (), h') ∧ zCM1 h' (zadS s w b m) ∧ zKp (fun k => k ≠ 7 ∧ k ≠ 8 ∧ k ≠ 30 ∧ k ≠ 31 ∧ k ≠ 32) h h' ∧ zd h' 10 = zd h 10 ∧ zce h' = zce h ∧ zso h' = zso h := by
  have z1 : ¬ zE 1 = zE 0 := by decide
  obtain ⟨k1, k2, k3, k4, k5, k6, k7, k8, k9⟩ := h2 w w0 w1
  have hz : zsk w = 7 ∨ zsk w = 8 := by unfold zsk; split <;> omega
  have bR : 0 ≤ β ∧ β ≤ 16 := by rw [hβ]; exact zbk_16 m1
  have hk1 : (ztg (cd w).1 == 1) = true := by rcases k1.1 with z | z <;> rw [z] <;> rfl
  obtain ⟨B, eB⟩ : ∃ B, B = zcnt (fun x => s 48 (600 * w + x) = 1) (s 47 w).toNat := ⟨_, rfl⟩
  obtain ⟨K, eK⟩ : ∃ K, K = zcnt (fun x => zbk (s 49 (600 * w + x)) = β) (s 47 w).toNat := ⟨_, rfl⟩
  rw [← eB] at k6
  have k9β := k9 β bR.1 (by omega)
  rw [← eK] at k9β
  obtain ⟨H1, e1⟩ : ∃ H, H = zsi h (cd w).1 (cd w).2 (s 47 w).toNat (zE (β * 2 + b)) := ⟨_, rfl⟩
  obtain ⟨H2, e2⟩ : ∃ H, H = zsi H1 (zsk w) (w / 2).toNat 1 (zE (s 47 w + 1)) := ⟨_, rfl⟩
  obtain ⟨H3, e3⟩ : ∃ H, H = zsi H2 (zsk w) (w / 2).toNat 2 (zE (B + b)) := ⟨_, rfl⟩
  obtain ⟨H4, e4⟩ : ∃ H, H = zsi H3 31 (zbi w) β.toNat (zE (K + 1)) := ⟨_, rfl⟩
  have i1 : ∀ k i j, ¬ (k = (cd w).1 ∧ i = (cd w).2 ∧ j = (s 47 w).toNat) → zi H1 k i j = zi h k i j := fun k i j z => by rw [e1]; exact zi_ne z
  have i2 : ∀ k i j, ¬ (k = zsk w ∧ i = (w / 2).toNat ∧ j = 1) → zi H2 k i j = zi H1 k i j := fun k i j z => by rw [e2]; exact zi_ne z
  have i3 : ∀ k i j, ¬ (k = zsk w ∧ i = (w / 2).toNat ∧ j = 2) → zi H3 k i j = zi H2 k i j := fun k i j z => by rw [e3]; exact zi_ne z
  have i4 : ∀ k i j, ¬ (k = 31 ∧ i = zbi w ∧ j = β.toNat) → zi H4 k i j = zi H3 k i j := fun k i j z => by rw [e4]; exact zi_ne z
  have r4 : zr H4 = zr h := by rw [e4, e3, e2, e1]; rfl
  have l4 : zln H4 = zln h := by rw [e4, e3, e2, e1]; rfl
  have c4 : zct H4 = zct h := by rw [e4, e3, e2, e1]; rfl
  have d4 : zd H4 = zd h := by rw [e4, e3, e2, e1]; rfl
  have ll4 : zl H4 = zl h := by rw [e4, e3, e2, e1]; rfl
  refine ⟨H4, ?_, ⟨cd, h1, fun u u0 u1 => ?_⟩, ?_, by rw [d4], by rw [e4, e3, e2, e1]; rfl, by rw [e4, e3, e2, e1]; rfl⟩
  · have a1 : ∀ g : Nat → Nat → Nat → zRs Unit, zar 1 (some (cd w)) (zE (s 47 w)) h g = g (cd w).1 (cd w).2 (s 47 w).toNat := fun g => zar_s (k := (cd w).1) (i := (cd w).2) rfl hk1 rfl hn.1 (by omega) (by omega)
    have r3 : ∀ H : zH, zr H = zr h → zr H (zsk w) (w / 2).toNat 3 = some (31, zbi w) := fun H z => by rw [z]; exact k7
    have q1 : zr H3 (zsk w) (w / 2).toNat 3 = some (31, zbi w) := r3 H3 (by rw [e3, e2, e1]; rfl)
    have q2 : zln H3 31 (zbi w) = 17 := by rw [e3, e2, e1]; exact k8
    have q3 : zi H3 31 (zbi w) β.toNat = zE K := by rw [i3 _ _ _ (by omega), i2 _ _ _ (by omega), i1 _ _ _ (by rcases k1.1 with y | y <;> omega)]; exact k9β
    have a2 : ∀ f : Int32 → zRs Unit, zri (zr H3 (zsk w) (w / 2).toNat 3) (zE β) H3 f = f (zE K) := fun f => zri_s q1 rfl q2 bR.1 (by omega) (by omega) q3
    have a3 : ∀ g : Nat → Nat → Nat → zRs Unit, zar 1 (zr H3 (zsk w) (w / 2).toNat 3) (zE β) H3 g = g 31 (zbi w) β.toNat := fun g => zar_s q1 rfl q2 bR.1 (by omega) (by omega)
    have g1 : zi H1 (zsk w) (w / 2).toNat 1 = zE (s 47 w) := by rw [i1 _ _ _ (by rcases k1.1 with y | y <;> omega)]; exact k5
    have g2 : zi H2 (zsk w) (w / 2).toNat 2 = zE B := by rw [i2 _ _ _ (by omega), i1 _ _ _ (by rcases k1.1 with y | y <;> omega)]; exact k6
    have f54 : zm19_54 (some (zsk w, (w / 2).toNat)) (zE β) (some (zsk w, (w / 2).toNat)) (zE B) (zE b) H2 = some (.inl (), H4) := by
      rw [zm19_54, zo_7g, zE_add, ← e3, zlet_s, zo_7g, a2, a3, zE_1, zE_add, ← e4, zlet_s]
    have f38 : zm19_38 (some (zsk w, (w / 2).toNat)) (zE b) (zE β) (some (cd w)) (zE (s 47 w)) (zE (β * 2)) (zE b) h = some (.inl (), H4) := by
      rw [zm19_38, a1, zE_add, ← e1, zlet_s, zo_7g, g1, zE_1, zE_add, ← e2, zlet_s, g2]
      rcases hb with rfl | rfl
      · rw [if_pos zE_0.symm, zE_0, f54]
      · rw [if_neg (by rw [zE_0]; exact z1), f54]
    rw [zm19_26, zo_7g, k2, k5, zE_2, zE_mul]
    rcases hb with rfl | rfl
    · rw [if_pos zE_0.symm, zE_0, f38]
    · rw [if_neg (by rw [zE_0]; exact z1), zE_1, f38]
  · obtain ⟨y1, y2, y3, y4, y5, y6, y7, y8, y9⟩ := h2 u u0 u1
    have hu' : zsk u = 7 ∨ zsk u = 8 := by unfold zsk; split <;> omega
    have hu1 := hu u u0 u1
    have cu : ∀ x : Int, ∀ c : Prop, (u ≠ w ∨ x ≠ s 47 w) → 0 ≤ x → x < 600 → zadS s w b m 48 (600 * u + x) = s 48 (600 * u + x) ∧ zadS s w b m 49 (600 * u + x) = s 49 (600 * u + x) := fun x _ e x0 x1 => zad_x hn x0 x1 e
    unfold zCMw
    rw [r4, l4, c4, zad_47]
    have ne : ∀ x : Int, x < s 47 u → u ≠ w ∨ x ≠ s 47 w := fun x hx => by
      by_cases c : u = w
      · exact Or.inr (by rw [← c]; omega)
      · exact Or.inl c
    have hcnt : zcnt (fun x => zadS s w b m 48 (600 * u + x) = 1) (s 47 u).toNat = zcnt (fun x => s 48 (600 * u + x) = 1) (s 47 u).toNat := zcnt_cg _ fun x x0 x1 => by
      rw [(cu x True (ne x (by omega)) x0 (by omega)).1]
    have hcnb : ∀ q, zcnt (fun x => zbk (zadS s w b m 49 (600 * u + x)) = q) (s 47 u).toNat = zcnt (fun x => zbk (s 49 (600 * u + x)) = q) (s 47 u).toNat := fun q => zcnt_cg _ fun x x0 x1 => by
      rw [(cu x True (ne x (by omega)) x0 (by omega)).2]
    by_cases c : u = w
    · rw [if_pos c]
      subst c
      have en : (s 47 u + 1).toNat = (s 47 u).toNat + 1 := by omega
      obtain ⟨n1, n2⟩ := zad_n (s := s) (w := u) (b := b) (m := m)
      refine ⟨y1, y2, ⟨by omega, y3.2.1, y3.2.2⟩, fun x x0 x1 => ?_, ?_, ?_, y7, y8, fun q q0 q1 => ?_⟩
      · rw [i4 _ _ _ (by rcases y1.1 with y | y <;> omega), i3 _ _ _ (by rcases y1.1 with y | y <;> omega), i2 _ _ _ (by rcases y1.1 with y | y <;> omega)]
        by_cases d : x = s 47 u
        · rw [d, n1, n2, e1, ← hβ, Int.mul_comm]
          exact zi_s
        · obtain ⟨g1, g2⟩ := cu x True (Or.inr d) x0 (by omega)
          rw [g1, g2, i1 _ _ _ (by omega)]
          exact y4 x x0 (by omega)
      · rw [i4 _ _ _ (by omega), i3 _ _ _ (by omega), e2]
        exact zi_s
      · rw [i4 _ _ _ (by omega), e3, en]
        show zi (zsi H2 (zsk u) (u / 2).toNat 2 (zE (B + b))) (zsk u) (u / 2).toNat 2 = zE (zcnt (fun x => zadS s u b m 48 (600 * u + x) = 1) (s 47 u).toNat + zcn1 (zadS s u b m 48 (600 * u + ((s 47 u).toNat : Int)) = 1))
        rw [hcnt, ← eB, Int.toNat_of_nonneg hn.1, n1, zi_s]
        rcases hb with rfl | rfl
        · rw [zcn1_f (by decide)]
        · rw [zcn1_t rfl]
      · rw [en]
        show _ = zE (zcnt (fun x => zbk (zadS s u b m 49 (600 * u + x)) = q) (s 47 u).toNat + zcn1 (zbk (zadS s u b m 49 (600 * u + ((s 47 u).toNat : Int))) = q))
        rw [hcnb, Int.toNat_of_nonneg hn.1, n2, ← hβ]
        by_cases d : β = q
        · rw [zcn1_t d, ← d, ← eK, e4]
          exact zi_s
        · rw [zcn1_f d, Int.add_zero, i4 _ _ _ (by omega), i3 _ _ _ (by omega), i2 _ _ _ (by omega), i1 _ _ _ (by rcases y1.1 with y | y <;> omega)]
          exact y9 q q0 q1
    · rw [if_neg c]
      have nz : ¬ (zsk u = zsk w ∧ (u / 2).toNat = (w / 2).toNat) := fun z => by
        have z1 := z.1
        unfold zsk at z1
        have z2 := z.2
        by_cases p : u % 2 = 1
        · by_cases q : w % 2 = 1
          · omega
          · rw [if_pos p, if_neg q] at z1; omega
        · by_cases q : w % 2 = 1
          · rw [if_neg p, if_pos q] at z1; omega
          · omega
      have nb : zbi u ≠ zbi w := fun z => by
        unfold zbi at z
        by_cases p : u % 2 = 1
        · by_cases q : w % 2 = 1
          · rw [if_pos p, if_pos q] at z; omega
          · rw [if_pos p, if_neg q] at z; omega
        · by_cases q : w % 2 = 1
          · rw [if_neg p, if_pos q] at z; omega
          · rw [if_neg p, if_neg q] at z; omega
      have nc : ¬ ((cd u).1 = (cd w).1 ∧ (cd u).2 = (cd w).2) := fun z => c (h1 u w u0 u1 w0 w1 (Prod.ext z.1 z.2))
      have nj : ∀ j, zi H4 (zsk u) (u / 2).toNat j = zi h (zsk u) (u / 2).toNat j := fun j => by
        rw [i4 _ _ _ (by omega), i3 _ _ _ (fun z => nz ⟨z.1, z.2.1⟩), i2 _ _ _ (fun z => nz ⟨z.1, z.2.1⟩), i1 _ _ _ (by rcases k1.1 with y | y <;> omega)]
      rw [nj, nj, hcnt]
      refine ⟨y1, y2, y3, fun x x0 x1 => ?_, y5, y6, y7, y8, fun q q0 q1 => ?_⟩
      · obtain ⟨g1, g2⟩ := cu x True (Or.inl c) x0 (by omega)
        rw [g1, g2, i4 _ _ _ (by rcases y1.1 with y | y <;> omega), i3 _ _ _ (by rcases y1.1 with y | y <;> omega), i2 _ _ _ (by rcases y1.1 with y | y <;> omega), i1 _ _ _ (fun z => nc ⟨z.1, z.2.1⟩)]
        exact y4 x x0 x1
      · rw [hcnb, i4 _ _ _ (fun z => nb z.2.1), i3 _ _ _ (by omega), i2 _ _ _ (by omega), i1 _ _ _ (by rcases k1.1 with y | y <;> omega)]
        exact y9 q q0 q1
  · intro k hk
    have n7 : ¬ k = zsk w := by omega
    have nc : ¬ k = (cd w).1 := by rcases k1.1 with y | y <;> omega
    refine ⟨by rw [c4], by rw [l4], ?_, by rw [r4], by rw [d4], by rw [ll4]⟩
    funext i j
    rw [i4 _ _ _ (by omega), i3 _ _ _ (fun z => n7 z.1), i2 _ _ _ (fun z => n7 z.1), i1 _ _ _ (fun z => nc z.1)]
theorem zc19 {h : zH} {s : zS} {w b m : Int} (hC : zCM1 h s) (w0 : 0 ≤ w) (w1 : w < 24) (hu : ∀ u, 0 ≤ u → u < 24 → 0 ≤ s 47 u ∧ s 47 u ≤ 600) (hn : s 47 w < 600) (hb : b = 0 ∨ b = 1) (m0 : 0 ≤ m) (m1 : m ≤ 60000) : ∃ h', zm19 (some (zsk w, (w / 2).toNat)) (zE b) (zE m) h = some (.inl (), h') ∧ zCM1 h' (zadS s w b m) ∧ zKp (fun k => k ≠ 7 ∧ k ≠ 8 ∧ k ≠ 30 ∧ k ≠ 31 ∧ k ≠ 32) h h' ∧ zd h' 10 = zd h 10 ∧ zce h' ≤ zce h + 1 ∧ zso h' ≤ zso h + 2000 := by
  have hw : 0 ≤ s 47 w ∧ s 47 w < 600 := ⟨(hu w w0 w1).1, hn⟩
  obtain ⟨H, a1, ⟨cd, a2, a3, a4⟩, a5, a6, a7, a8⟩ := zc19_11 (x1 := zE b) (x3 := zE (zbk m)) hC w0 w1 hw
  obtain ⟨h', b1, b2, b3, b4, b5, b6⟩ := zc19_26 (β := zbk m) a2 a3 a4 w0 w1 hw hu hb rfl m0 m1
  refine ⟨h', ?_, b2, a5.tr b3, b4.trans a6, by omega, by omega⟩
  rw [zm19, zE_0, zc19_2 m0 m1, a1, b1]

