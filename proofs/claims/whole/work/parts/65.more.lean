set_option maxRecDepth 16384
/-! approve, seers, stale, forbidden: both sides. -/
/-- how many of a set of eight: as the model counts it -/
theorem zbits_d : ∀ m, m < 64 → ∀ n, n < 9 → (List.range n).foldl (fun (t : Int32) k => t + ((Int32.ofInt (m : Nat) >>> (Int32.ofInt (k : Nat) &&& 31)) &&& 1)) 0 = Int32.ofInt ((((List.range n).filter fun k => m.testBit k).length : Nat) : Int) := by decide +kernel
theorem zp159 {h : zH} {m : Int} (h1 : 0 ≤ m) (h2 : m < 64) : zm159 (zE m) h = some (.inl (zE (zpop m.toNat)), h) := by
  rw [zm159, zE_0]
  refine zloop0 (W := fun n i (t : Int32) => zm159_4 n (zE m) t (zE i) h) (N := 8) (fun i t => t = (List.range i.toNat).foldl (fun (t : Int32) k => t + ((zE m >>> (zE (k : Nat) &&& 31)) &&& 1)) 0) (fun x => x = some (.inl (zE (zpop m.toNat)), h)) (zE 0) rfl (by decide) (by decide) ?_ ?_
  · intro n t ht
    simp only [zm159_4, zE_0, zE_1, zE_2, zE_3, zE_4, zE_5, zE_6, zE_7, zE_8, zE_9, zE_10, zE_11, zE_12, zE_13, zE_14, zE_neg, Int32.le_refl, if_true]
    have e := zbits_d m.toNat (by omega) 8 (by decide)
    rw [Int.toNat_of_nonneg h1] at e
    rw [ht]
    exact congrArg (fun x => some ((.inl x : Int32 ⊕ Nat), h)) e
  · intro n i t k1 k2 ht
    refine Or.inr ⟨t + ((zE m >>> (zE i &&& 31)) &&& 1), ?_, ?_⟩
    · rw [show (i + 1).toNat = i.toNat + 1 by omega, List.range_succ, List.foldl_append, ← ht]
      show _ = t + ((zE m >>> (zE (i.toNat : Int) &&& 31)) &&& 1)
      rw [Int.toNat_of_nonneg k1]
    · have h3 : ¬ 8 ≤ i := by omega
      rw [zm159_4, zE_8, if_neg (by rw [zE_le (by omega) (by omega) (by omega) (by omega)]; exact h3), zlet_s, zlet_s, zE_1, zE_add]
theorem zor_d6 : ∀ t, t < 64 → ∀ i, i < 6 → (t ||| 1 <<< i) < 64 ∧ ((Int32.ofInt (t : Nat)) ||| ((1 : Int32) <<< ((Int32.ofInt (i : Nat)) &&& 31))) = Int32.ofInt ((t ||| 1 <<< i : Nat) : Int) := by decide +kernel
theorem zor_6 {t i : Int} (h1 : 0 ≤ t) (h2 : t ≤ 63) (h3 : 0 ≤ i) (h4 : i ≤ 5) : ∃ u, (zE t ||| (zE 1 <<< (zE i &&& 31))) = zE u ∧ 0 ≤ u ∧ u ≤ 63 := by
  obtain ⟨e1, e2⟩ := zor_d6 t.toNat (by omega) i.toNat (by omega)
  rw [Int.toNat_of_nonneg h1, Int.toNat_of_nonneg h3] at e2
  exact ⟨_, e2, by omega, by omega⟩
theorem zr_approve (x y : Int32) : zPrI (fun h => zm54 (some (12, 0)) x y h) (fun h => zm160 (some (13, 0)) x y h) (fun t => if t = 1 then 2 else if t = 2 then 0 else 1) 3 := by
  intro h s hC hM hW
  obtain ⟨r, rfl, a1, a2⟩ := zE_ex x
  obtain ⟨b, rfl, b1, b2⟩ := zE_ex y
  have z1 : ¬ zE 1 = zE 0 := by decide
  have z2 : ¬ zE 1 ≤ zE 0 := by decide
  have z3 : ¬ zE 2 ≤ zE 0 := by decide
  have z4 : ¬ zE 3 ≤ zE 0 := by decide
  have z5 : ¬ zE 0 = zE 1 := by decide
  have cr := hC.1
  have cA := hC.2.2.1
  have cR := hC.2.2.2.2.1
  obtain ⟨wA, wK, wC, wD, wP, wR, wZ, wT, wG, wE, wM, wX⟩ := hW
  have hW0 : zWf s := ⟨wA, wK, wC, wD, wP, wR, wZ, wT, wG, wE, wM, wX⟩
  have hn := wR.1
  have hnA := wA.1
  by_cases c : 0 ≤ r ∧ r < s 30 0
  · obtain ⟨r1, -, r3, -, -, -, r7, -⟩ := wR.2.2 r c.1 c.2
    have rA := (wA.2 (s 31 r) r1.1 r1.2).2.1
    by_cases d : 0 ≤ b ∧ b ≤ 5
    · obtain ⟨e, e1, e2⟩ := zc10 cR wR c.1 c.2
      obtain ⟨i1, i2, i3⟩ := zc133 (h := h) (x := s 36 r) (k := b) (by omega) (by omega) (by omega) (by omega)
      obtain ⟨j1, j2, j3⟩ := zbt_m (x := s 36 r) (k := b) (by omega) (by omega) (by omega) (by omega)
      have hij : i1 = j1 := i2.u j2
      subst hij
      have jr := j2.r
      have hbad : (s 4 (s 31 r) = b ∨ zbt (s 36 r) b ∨ 1 < s 33 r) → ∃ (t v w : Int) (s' : zS), 0 ≤ t ∧ t ≤ 3 ∧ zWf s' ∧ ((t = 0 ∧ zCct h s' (zm54 (some (12, 0)) (zE r) (zE b) h) (.inl (zE v))) ∨ (t ≠ 0 ∧ zCct h s' (zm54 (some (12, 0)) (zE r) (zE b) h) (.inr ((fun t : Int => if t = 1 then 2 else if t = 2 then 0 else 1) t)))) ∧ (t = 0 → w = v) ∧ ∀ h', zMd h' s → ∃ s'', zsc s' s'' ∧ s'' 0 0 = t ∧ zMct h' s'' (zm160 (some (13, 0)) (zE r) (zE b) h') (zE w) := by
        intro q
        refine zexI (C := fun h => zm54 (some (12, 0)) (zE r) (zE b) h) (M := fun h => zm160 (some (13, 0)) (zE r) (zE b) h) (ex := fun t : Int => if t = 1 then 2 else if t = 2 then 0 else 1) (t := 3) hC hW0 (by omega) (by omega) ?_ (fun h' hM' => ?_)
        · show zm54 (some (12, 0)) (zE r) (zE b) h = some (.inr 1, zro h 1 6)
          by_cases q1 : s 4 (s 31 r) = b
          · simp (discharger := omega) only [zm54, ↓zo_12, ↓zLRz cr cR, zc130, if_pos c, zE_0, zE_1, zE_2, zE_3, zE_4, zE_5, zE_6, zE_7, zE_8, zE_9, zE_10, zE_11, zE_12, zE_13, zE_14, zE_neg, zc131, if_pos d, ↓zb_s, ↓zLRg cr cR, ↓zo_5, zCrA cR, ↓zo_0, zCa2 cA, zE_inj, if_pos q1]
          · rcases i2 with ⟨rfl, i2⟩ | ⟨rfl, i2⟩
            · simp (discharger := omega) only [zm54, ↓zo_12, ↓zLRz cr cR, zc130, if_pos c, zE_0, zE_1, zE_2, zE_3, zE_4, zE_5, zE_6, zE_7, zE_8, zE_9, zE_10, zE_11, zE_12, zE_13, zE_14, zE_neg, zc131, if_pos d, ↓zb_s, ↓zLRg cr cR, ↓zo_5, zCrA cR, ↓zo_0, zCa2 cA, zCr5_ cR, zE_inj, if_neg q1, i3, z1, if_false]
            · rcases e1 with ⟨rfl, e1⟩ | ⟨rfl, e1⟩
              · simp (discharger := omega) only [zm54, ↓zo_12, ↓zLRz cr cR, zc130, if_pos c, zE_0, zE_1, zE_2, zE_3, zE_4, zE_5, zE_6, zE_7, zE_8, zE_9, zE_10, zE_11, zE_12, zE_13, zE_14, zE_neg, zc131, if_pos d, ↓zb_s, ↓zLRg cr cR, ↓zo_5, zCrA cR, ↓zo_0, zCa2 cA, zCr5_ cR, zE_inj, if_neg q1, i3, if_true, e2, z1, if_false]
              · exact absurd q (fun z => z.elim q1 (fun z => z.elim i2 e1))
        · obtain ⟨p, p1, p2⟩ := zp143 hM' wR (x := r) a1 a2
          obtain ⟨o, o1, o2⟩ := zp139i (h := h') (x := b) (lo := 0) (hi := 5) b1 b2 (by omega) (by omega) (by omega) (by omega)
          obtain ⟨g, g1, g2⟩ := zp156 hM' wR c.1 c.2
          have hM1 := hM'.ws 0 (by decide) 3
          rcases p1 with ⟨rfl, -⟩ | ⟨rfl, p1⟩
          · rcases o1 with ⟨rfl, -⟩ | ⟨rfl, o1⟩
            · show zm160 (some (13, 0)) (zE r) (zE b) h' = _
              have fin : zm160_40 (some (13, 0)) (zE r) (zE b) (some (13, 0)) (zE 3) h' = some (.inl (zE 0), zsi h' 13 0 0 (zE 3)) := by
                simp only [zm160_40, ↓zM_ob, ↓zlet_s, zMs0 hM1, zup_s, zE_0, zE_1, zE_2, zE_3, zE_4, zE_5, zE_6, zE_7, zE_8, zE_9, zE_10, zE_11, zE_12, zE_13, zE_14, zE_neg, z4, if_false]
              by_cases q1 : s 4 (s 31 r) = b
              · simp (discharger := omega) only [zm160, ↓zM_ob, p2, zE_0, zE_1, zE_2, zE_3, zE_4, zE_5, zE_6, zE_7, zE_8, zE_9, zE_10, zE_11, zE_12, zE_13, zE_14, zE_neg, o2, zb_s, z1, if_false, ↓zMi31 hM', ↓zMi4 hM', zE_inj, if_pos q1]
                exact fin
              · rcases i2 with ⟨rfl, i2⟩ | ⟨rfl, i2⟩
                · simp (discharger := omega) only [zm160, ↓zM_ob, p2, zE_0, zE_1, zE_2, zE_3, zE_4, zE_5, zE_6, zE_7, zE_8, zE_9, zE_10, zE_11, zE_12, zE_13, zE_14, zE_neg, o2, zb_s, z1, if_false, ↓zMi31 hM', ↓zMi4 hM', ↓zMi36 hM', zE_inj, if_neg q1, j3, if_true]
                  exact fin
                · rcases g1 with ⟨rfl, g1⟩ | ⟨rfl, g1⟩
                  · simp (discharger := omega) only [zm160, ↓zM_ob, p2, zE_0, zE_1, zE_2, zE_3, zE_4, zE_5, zE_6, zE_7, zE_8, zE_9, zE_10, zE_11, zE_12, zE_13, zE_14, zE_neg, o2, zb_s, z1, if_false, ↓zMi31 hM', ↓zMi4 hM', ↓zMi36 hM', zE_inj, if_neg q1, j3, z5, if_true, g2]
                    exact fin
                  · exact absurd q (fun z => z.elim q1 (fun z => z.elim i2 g1))
            · exact absurd d o1
          · exact absurd c p1
      by_cases q1 : s 4 (s 31 r) = b
      · exact hbad (Or.inl q1)
      · by_cases q2 : zbt (s 36 r) b
        · exact hbad (Or.inr (Or.inl q2))
        · rcases e1 with ⟨rfl, e1⟩ | ⟨rfl, e1⟩
          · exact hbad (Or.inr (Or.inr e1))
          · have i0 : i1 = 0 := i2.u (zbo_0 q2)
            subst i0
            obtain ⟨u, u1, u2, u3⟩ := zor_6 (t := s 36 r) (i := b) (by omega) (by omega) (by omega) (by omega)
            have hW' : zWf (zup s 36 r u) := ⟨wA, wK, wC, wD, wP, zWr_u (r := r) (x := u) wR (Or.inl ⟨rfl, u2, u3⟩), wZ, wT, wG, wE, wM, zWx_36 wX (by omega)⟩
            refine zokI (v := zpop u.toNat) (h1 := zsi h 5 r.toNat 5 (zE u)) (s' := zup s 36 r u) (by omega) hW' ?_ (zw_5_5 (x := u) hC c.1 c.2) (zKp_i (fun z => z (by unfold zpc1; decide))) (by show zce h ≤ _; omega) (by show zso h ≤ _; omega) (fun h' hM' => ?_)
            · have e18 : zi (zsi h 5 r.toNat 5 (zE u)) 5 r.toNat 5 = zE u := zi_s
              simp (discharger := omega) only [zm54, ↓zo_12, ↓zLRz cr cR, zc130, if_pos c, zE_0, zE_1, zE_2, zE_3, zE_4, zE_5, zE_6, zE_7, zE_8, zE_9, zE_10, zE_11, zE_12, zE_13, zE_14, zE_neg, zc131, if_pos d, ↓zb_s, ↓zLRg cr cR, ↓zo_5, zCrA cR, ↓zo_0, zCa2 cA, zCr5_ cR, zE_inj, if_neg q1, i3, if_true, e2, ↓zlet_s, u1, e18, zc292]
            · obtain ⟨p, p1, p2⟩ := zp143 hM' wR (x := r) a1 a2
              obtain ⟨o, o1, o2⟩ := zp139i (h := h') (x := b) (lo := 0) (hi := 5) b1 b2 (by omega) (by omega) (by omega) (by omega)
              obtain ⟨g, g1, g2⟩ := zp156 hM' wR c.1 c.2
              have hM1 := hM'.ws 0 (by decide) 0
              have hM2 := hM1.wa (36, 136, 20) (by decide) r u c.1
              have g0 : g = 0 := g1.u (zbo_0 e1)
              subst g0
              rcases p1 with ⟨rfl, -⟩ | ⟨rfl, p1⟩
              · rcases o1 with ⟨rfl, -⟩ | ⟨rfl, o1⟩
                · refine ⟨_, zsc_c zsc_up, rfl, _, ?_, hM2, (zKp_i (fun z => z (Or.inl rfl))).tr (zKp_i (fun z => z (Or.inr (by decide)))), rfl, rfl⟩
                  show zm160 (some (13, 0)) (zE r) (zE b) h' = _
                  have e5 : zup s 0 0 0 36 r = s 36 r := rfl
                  simp (discharger := omega) only [zm160, zm160_40, ↓zM_ob, p2, zE_0, zE_1, zE_2, zE_3, zE_4, zE_5, zE_6, zE_7, zE_8, zE_9, zE_10, zE_11, zE_12, zE_13, zE_14, zE_neg, o2, zb_s, z1, z5, if_false, ↓zMi31 hM', ↓zMi4 hM', ↓zMi36 hM', zE_inj, if_neg q1, j3, g2, if_true, ↓zlet_s, zMs0 hM1, zup_s, Int32.le_refl, ↓zMi36 hM1, ↓zMa36 hM1, e5, u1]
                  rw [zMi36 hM2 (by omega) (by omega), zup_s, zp159 (by omega) (by omega), zb_s]
                · exact absurd d o1
              · exact absurd c p1
    · refine zexI (t := 2) hC hW0 (by omega) (by omega) ?_ (fun h' hM' => ?_)
      · simp (discharger := omega) only [zm54, ↓zo_12, ↓zLRz cr cR, zc130, if_pos c, zE_0, zE_1, zE_2, zE_3, zE_4, zE_5, zE_6, zE_7, zE_8, zE_9, zE_10, zE_11, zE_12, zE_13, zE_14, zE_neg, zc131, if_neg d, ↓zb_s, ↓zb_x]
        rfl
      · obtain ⟨p, p1, p2⟩ := zp143 hM' wR (x := r) a1 a2
        obtain ⟨o, o1, o2⟩ := zp139i (h := h') (x := b) (lo := 0) (hi := 5) b1 b2 (by omega) (by omega) (by omega) (by omega)
        have hM1 := hM'.ws 0 (by decide) 2
        rcases p1 with ⟨rfl, -⟩ | ⟨rfl, p1⟩
        · rcases o1 with ⟨rfl, o1⟩ | ⟨rfl, -⟩
          · exact absurd o1 d
          · simp (discharger := omega) only [zm160, zm160_40, ↓zM_ob, p2, zE_0, zE_1, zE_2, zE_3, zE_4, zE_5, zE_6, zE_7, zE_8, zE_9, zE_10, zE_11, zE_12, zE_13, zE_14, zE_neg, o2, zb_s, z1, if_false, if_true, ↓zlet_s, zMs0 hM1, zup_s, z3]
        · exact absurd c p1
  · refine zexI (t := 1) hC hW0 (by omega) (by omega) ?_ (fun h' hM' => ?_)
    · simp (discharger := omega) only [zm54, ↓zo_12, ↓zLRz cr cR, zc130, if_neg c, ↓zb_x, if_true]
    · obtain ⟨p, p1, p2⟩ := zp143 hM' wR (x := r) a1 a2
      have hM1 := hM'.ws 0 (by decide) 1
      rcases p1 with ⟨rfl, p1⟩ | ⟨rfl, -⟩
      · exact absurd p1 c
      · simp (discharger := omega) only [zm160, zm160_40, ↓zM_ob, p2, zE_0, zE_1, zE_2, zE_3, zE_4, zE_5, zE_6, zE_7, zE_8, zE_9, zE_10, zE_11, zE_12, zE_13, zE_14, zE_neg, zb_s, if_true, ↓zlet_s, zMs0 hM1, zup_s, z2, if_false]
