set_option maxRecDepth 16384
/-! conclude, except, approve: both sides. -/
theorem zWx_36 {s : zS} {r v : Int} (h : zWx s) (r1 : r < s 30 0) : zWx (zup s 36 r v) :=
  ⟨h.1, h.2.1, h.2.2.1, h.2.2.2.1, h.2.2.2.2.1, fun u u0 u1 => by
    obtain ⟨b1, b2, b3, b4, b5, b6⟩ := h.2.2.2.2.2.1 u u0 u1
    exact ⟨b1, b2, (zup_a (by have : s 30 0 ≤ u := u0; omega)).trans b3, b4, b5, b6⟩, h.2.2.2.2.2.2⟩
theorem zWx_38 {s : zS} {r v : Int} (h : zWx s) (r1 : r < s 30 0) : zWx (zup s 38 r v) :=
  ⟨h.1, h.2.1, h.2.2.1, h.2.2.2.1, h.2.2.2.2.1, fun u u0 u1 => by
    obtain ⟨b1, b2, b3, b4, b5, b6⟩ := h.2.2.2.2.2.1 u u0 u1
    exact ⟨b1, b2, b3, b4, (zup_a (by have : s 30 0 ≤ u := u0; omega)).trans b5, b6⟩, h.2.2.2.2.2.2⟩
theorem zWx_77 {s : zS} {r v : Int} (h : zWx s) (r1 : r < s 71 0) : zWx (zup s 77 r v) :=
  ⟨h.1, h.2.1, h.2.2.1, h.2.2.2.1, h.2.2.2.2.1, h.2.2.2.2.2.1, fun u u0 u1 => (zup_a (by have : s 71 0 ≤ u := u0; omega)).trans (h.2.2.2.2.2.2.1 u u0 u1), h.2.2.2.2.2.2.2⟩
theorem zr_conclude (x : Int32) : zPrV (fun h => zm128 (some (12, 0)) x h) (fun h => zm239 (some (13, 0)) x h) (fun t => if t = 1 then 2 else 1) 2 := by
  intro h s hC hM hW
  obtain ⟨a, rfl, a1, a2⟩ := zE_ex x
  have z1 : ¬ zE 1 = zE 0 := by decide
  have z2 : ¬ zE 2 = zE 0 := by decide
  have cr := hC.1
  have cE := hC.2.2.2.2.2.2.2.1
  obtain ⟨wA, wK, wC, wD, wP, wR, wZ, wT, wG, wE, wM, wX⟩ := hW
  have hW0 : zWf s := ⟨wA, wK, wC, wD, wP, wR, wZ, wT, wG, wE, wM, wX⟩
  have hn := wE.1
  by_cases c : 0 ≤ a ∧ a < s 71 0
  · have w77 := (wE.2 a c.1 c.2).2.2.2.2.2
    by_cases e : s 77 a = 0
    · have hW' : zWf (zup s 77 a 1) := by
        refine ⟨wA, wK, wC, wD, wP, wR, wZ, wT, wG, ⟨wE.1, fun w w0 w1 => ?_⟩, wM, zWx_77 wX c.2⟩
        obtain ⟨q1, q2, q3, q4, q5, q6⟩ := wE.2 w w0 w1
        refine ⟨q1, q2, q3, q4, q5, ?_⟩
        by_cases e : w = a
        · subst e; rw [zup_s]; omega
        · rw [zup_a e]; exact q6
      refine zokV (h1 := zsi h 1 a.toNat 5 (zE 1)) (s' := zup s 77 a 1) (by omega) hW' ?_ (zw_1_5 (x := 1) hC c.1 c.2) (zKp_i (fun z => z (by unfold zpc1; decide))) (by show zce h ≤ _; omega) (by show zso h ≤ _; omega) (fun h' hM' => ?_)
      · simp (discharger := omega) only [zm128, ↓zo_12, ↓zLEz cr cE, zc130, if_pos c, ↓zb_s, ↓zLEg cr cE, ↓zo_1, zCe5 cE, zE_0, zE_1, zE_2, zE_3, zE_4, zE_5, zE_6, zE_7, zE_8, zE_9, zE_10, zE_11, zE_12, zE_13, zE_14, zE_neg, zE_inj, e, if_true, ↓zlet_s]
      · obtain ⟨p, p1, p2⟩ := zp139i (h := h') (x := a) (lo := 0) (hi := s 71 0 - 1) a1 a2 (by omega) (by omega) (by omega) (by omega)
        have hM1 := hM'.ws 0 (by decide) 0
        rcases p1 with ⟨rfl, -⟩ | ⟨rfl, p1⟩
        · refine ⟨zup (zup s 0 0 0) 77 a 1, zsc_c zsc_up, (zup_j (by decide)).trans zup_s, _, ?_, hM1.wa (77, 277, 8) (by decide) a 1 (by omega), (zKp_i (fun z => z (Or.inl rfl))).tr (zKp_i (fun z => z (Or.inr (by decide)))), rfl, rfl⟩
          show zm239 (some (13, 0)) (zE a) h' = _
          simp (discharger := omega) only [zm239, zm239_19, ↓zM_ob, zMs71 hM', zE_0, zE_1, zE_2, zE_3, zE_4, zE_5, zE_6, zE_7, zE_8, zE_9, zE_10, zE_11, zE_12, zE_13, zE_14, zE_neg, zE_sub, p2, zb_s, z1, if_false, ↓zMi77 hM', zE_inj, e, if_true, ↓zlet_s, zMs0 hM1, zup_s, ↓zMa77 hM1]
        · exact absurd (show 0 ≤ a ∧ a ≤ s 71 0 - 1 by omega) p1
    · refine zexV (t := 2) hC hW0 (by omega) (by omega) ?_ (fun h' hM' => ?_)
      · simp (discharger := omega) only [zm128, ↓zo_12, ↓zLEz cr cE, zc130, if_pos c, ↓zb_s, ↓zLEg cr cE, ↓zo_1, zCe5 cE, zE_0, zE_1, zE_2, zE_3, zE_4, zE_5, zE_6, zE_7, zE_8, zE_9, zE_10, zE_11, zE_12, zE_13, zE_14, zE_neg, zE_inj, e, if_false]
        rfl
      · obtain ⟨p, p1, p2⟩ := zp139i (h := h') (x := a) (lo := 0) (hi := s 71 0 - 1) a1 a2 (by omega) (by omega) (by omega) (by omega)
        have hM1 := hM'.ws 0 (by decide) 2
        rcases p1 with ⟨rfl, -⟩ | ⟨rfl, p1⟩
        · simp (discharger := omega) only [zm239, zm239_19, ↓zM_ob, zMs71 hM', zE_0, zE_1, zE_2, zE_3, zE_4, zE_5, zE_6, zE_7, zE_8, zE_9, zE_10, zE_11, zE_12, zE_13, zE_14, zE_neg, zE_sub, p2, zb_s, z1, if_false, ↓zMi77 hM', zE_inj, e, ↓zlet_s, zMs0 hM1, zup_s, z2]
        · exact absurd (show 0 ≤ a ∧ a ≤ s 71 0 - 1 by omega) p1
  · refine zexV (t := 1) hC hW0 (by omega) (by omega) ?_ (fun h' hM' => ?_)
    · simp (discharger := omega) only [zm128, ↓zo_12, ↓zLEz cr cE, zc130, if_neg c, ↓zb_x, if_true]
    · obtain ⟨p, p1, p2⟩ := zp139i (h := h') (x := a) (lo := 0) (hi := s 71 0 - 1) a1 a2 (by omega) (by omega) (by omega) (by omega)
      have hM1 := hM'.ws 0 (by decide) 1
      rcases p1 with ⟨rfl, p1⟩ | ⟨rfl, -⟩
      · exact absurd (show 0 ≤ a ∧ a < s 71 0 by omega) c
      · simp (discharger := omega) only [zm239, zm239_19, ↓zM_ob, zMs71 hM', zE_0, zE_1, zE_2, zE_3, zE_4, zE_5, zE_6, zE_7, zE_8, zE_9, zE_10, zE_11, zE_12, zE_13, zE_14, zE_neg, zE_sub, p2, zb_s, if_true, ↓zlet_s, zMs0 hM1, zup_s, z1, if_false]
theorem zc10 {h : zH} {s : zS} (hR : zCR h s) (hW : zWr s) {r : Int} (r1 : 0 ≤ r) (r2 : r < s 30 0) : ∃ b, zbo b (1 < s 33 r) ∧ zm10 (some (5, r.toNat)) h = some (.inl (zE b), h) := by
  have w := (hW.2.2 r r1 r2).2.2.1
  by_cases e0 : s 33 r = 0
  · exact ⟨0, zbo_0 (by omega), by simp (discharger := omega) only [zm10, ↓zo_5, zCr2_ hR, zE_0, zE_1, zE_2, zE_3, zE_4, zE_5, zE_6, zE_7, zE_8, zE_9, zE_10, zE_11, zE_12, zE_13, zE_14, zE_neg, zE_inj, e0, if_true]⟩
  · by_cases e1 : s 33 r = 1
    · refine ⟨0, zbo_0 (by omega), ?_⟩
      simp (discharger := omega) only [zm10, ↓zo_5, zCr2_ hR, zE_0, zE_1, zE_2, zE_3, zE_4, zE_5, zE_6, zE_7, zE_8, zE_9, zE_10, zE_11, zE_12, zE_13, zE_14, zE_neg, zE_inj, if_neg e0, if_pos e1]
    · exact ⟨1, zbo_1 (by omega), by simp (discharger := omega) only [zm10, ↓zo_5, zCr2_ hR, zE_0, zE_1, zE_2, zE_3, zE_4, zE_5, zE_6, zE_7, zE_8, zE_9, zE_10, zE_11, zE_12, zE_13, zE_14, zE_neg, zE_inj, e0, e1, if_false]⟩
theorem zp156 {h : zH} {s : zS} (hM : zMd h s) (hW : zWr s) {r : Int} (r1 : 0 ≤ r) (r2 : r < s 30 0) : ∃ b, zbo b (1 < s 33 r) ∧ zm156 (some (13, 0)) (zE r) h = some (.inl (zE b), h) := by
  have hn := hW.1
  have w := (hW.2.2 r r1 r2).2.2.1
  by_cases e0 : s 33 r ≤ 1
  · exact ⟨0, zbo_0 (by omega), by simp (discharger := omega) only [zm156, ↓zM_ob, ↓zMi33 hM, zE_0, zE_1, zE_2, zE_3, zE_4, zE_5, zE_6, zE_7, zE_8, zE_9, zE_10, zE_11, zE_12, zE_13, zE_14, zE_neg, zE_le, e0, if_true]⟩
  · exact ⟨1, zbo_1 (by omega), by simp (discharger := omega) only [zm156, ↓zM_ob, ↓zMi33 hM, zE_0, zE_1, zE_2, zE_3, zE_4, zE_5, zE_6, zE_7, zE_8, zE_9, zE_10, zE_11, zE_12, zE_13, zE_14, zE_neg, zE_le, e0, if_false]⟩
/-- one place of a release -/
theorem zWr_u {s : zS} {f : Nat} {r x : Int} (hW : zWr s) (hf : f = 36 ∧ 0 ≤ x ∧ x ≤ 63 ∨ f = 37 ∧ 0 ≤ x ∧ x ≤ 1 ∨ f = 38 ∧ 0 ≤ x ∧ x ≤ 1) : zWr (zup s f r x) := by
  have e : ∀ j, j ≠ 36 → j ≠ 37 → j ≠ 38 → zup s f r x j = s j := fun j h1 h2 h3 => by
    funext b
    exact zup_j (by omega)
  refine ⟨?_, ?_, fun u u0 u1 => ?_⟩
  · rw [e 30 (by decide) (by decide) (by decide)]
    exact hW.1
  · rw [e 39 (by decide) (by decide) (by decide)]
    exact hW.2.1
  · rw [e 30 (by decide) (by decide) (by decide)] at u1
    obtain ⟨q1, q2, q3, q4, q5, q6, q7, q8, q9, q10, q11⟩ := hW.2.2 u u0 u1
    rw [e 31 (by decide) (by decide) (by decide), e 2 (by decide) (by decide) (by decide), e 32 (by decide) (by decide) (by decide), e 25 (by decide) (by decide) (by decide), e 33 (by decide) (by decide) (by decide), e 34 (by decide) (by decide) (by decide), e 26 (by decide) (by decide) (by decide), e 35 (by decide) (by decide) (by decide), e 1 (by decide) (by decide) (by decide), e 40 (by decide) (by decide) (by decide), e 58 (by decide) (by decide) (by decide), e 41 (by decide) (by decide) (by decide), e 42 (by decide) (by decide) (by decide), e 3 (by decide) (by decide) (by decide)]
    refine ⟨q1, q2, q3, q4, q5, q6, ?_, ?_, ?_, q10, q11⟩
    · by_cases ef : f = 36
      · subst ef
        by_cases eu : u = r
        · subst eu; rw [zup_s]; omega
        · rw [zup_a eu]; exact q7
      · rw [zup_j (fun z => ef z.symm)]; exact q7
    · by_cases ef : f = 37
      · subst ef
        by_cases eu : u = r
        · subst eu; rw [zup_s]; omega
        · rw [zup_a eu]; exact q8
      · rw [zup_j (fun z => ef z.symm)]; exact q8
    · by_cases ef : f = 38
      · subst ef
        by_cases eu : u = r
        · subst eu; rw [zup_s]; omega
        · rw [zup_a eu]; exact q9
      · rw [zup_j (fun z => ef z.symm)]; exact q9
theorem zr_except (x y : Int32) : zPrI (fun h => zm108 (some (12, 0)) x y h) (fun h => zm221 (some (13, 0)) x y h) (fun t => if t = 1 then 2 else if t = 2 then 0 else 1) 3 := by
  intro h s hC hM hW
  obtain ⟨r, rfl, a1, a2⟩ := zE_ex x
  obtain ⟨b, rfl, b1, b2⟩ := zE_ex y
  have z1 : ¬ zE 1 = zE 0 := by decide
  have z2 : ¬ zE 1 ≤ zE 0 := by decide
  have z3 : ¬ zE 2 ≤ zE 0 := by decide
  have z4 : ¬ zE 3 ≤ zE 0 := by decide
  have cr := hC.1
  have cA := hC.2.2.1
  have cR := hC.2.2.2.2.1
  have cs := hC.2.1
  obtain ⟨wA, wK, wC, wD, wP, wR, wZ, wT, wG, wE, wM, wX⟩ := hW
  have hW0 : zWf s := ⟨wA, wK, wC, wD, wP, wR, wZ, wT, wG, wE, wM, wX⟩
  have hn := wR.1
  have hnA := wA.1
  by_cases c : 0 ≤ r ∧ r < s 30 0
  · obtain ⟨r1, -, r3, -, -, -, -, -, r9, -⟩ := wR.2.2 r c.1 c.2
    have rA := (wA.2 (s 31 r) r1.1 r1.2).2.1
    by_cases d : 0 ≤ b ∧ b ≤ 5
    · obtain ⟨e, e1, e2⟩ := zc10 cR wR c.1 c.2
      have hbad : (s 4 (s 31 r) = b ∨ ¬ s 38 r = 0 ∨ 1 < s 33 r) → ∃ (t v w : Int) (s' : zS), 0 ≤ t ∧ t ≤ 3 ∧ zWf s' ∧ ((t = 0 ∧ zCct h s' (zm108 (some (12, 0)) (zE r) (zE b) h) (.inl (zE v))) ∨ (t ≠ 0 ∧ zCct h s' (zm108 (some (12, 0)) (zE r) (zE b) h) (.inr ((fun t : Int => if t = 1 then 2 else if t = 2 then 0 else 1) t)))) ∧ (t = 0 → w = v) ∧ ∀ h', zMd h' s → ∃ s'', zsc s' s'' ∧ s'' 0 0 = t ∧ zMct h' s'' (zm221 (some (13, 0)) (zE r) (zE b) h') (zE w) := by
        intro q
        refine zexI (C := fun h => zm108 (some (12, 0)) (zE r) (zE b) h) (M := fun h => zm221 (some (13, 0)) (zE r) (zE b) h) (ex := fun t : Int => if t = 1 then 2 else if t = 2 then 0 else 1) (t := 3) hC hW0 (by omega) (by omega) ?_ (fun h' hM' => ?_)
        · show zm108 (some (12, 0)) (zE r) (zE b) h = some (.inr 1, zro h 1 6)
          by_cases q1 : s 4 (s 31 r) = b
          · simp (discharger := omega) only [zm108, ↓zo_12, ↓zLRz cr cR, zc130, if_pos c, zE_0, zE_1, zE_2, zE_3, zE_4, zE_5, zE_6, zE_7, zE_8, zE_9, zE_10, zE_11, zE_12, zE_13, zE_14, zE_neg, zc131, if_pos d, ↓zb_s, ↓zLRg cr cR, ↓zo_5, zCrA cR, ↓zo_0, zCa2 cA, zE_inj, if_pos q1]
          · by_cases q2 : s 38 r = 0
            · rcases e1 with ⟨rfl, e1⟩ | ⟨rfl, e1⟩
              · simp (discharger := omega) only [zm108, ↓zo_12, ↓zLRz cr cR, zc130, if_pos c, zE_0, zE_1, zE_2, zE_3, zE_4, zE_5, zE_6, zE_7, zE_8, zE_9, zE_10, zE_11, zE_12, zE_13, zE_14, zE_neg, zc131, if_pos d, ↓zb_s, ↓zLRg cr cR, ↓zo_5, zCrA cR, ↓zo_0, zCa2 cA, zCr6_ cR, zE_inj, if_neg q1, if_pos q2, e2, z1, if_false]
              · exact absurd q (fun z => z.elim q1 (fun z => z.elim (fun z => z q2) e1))
            · simp (discharger := omega) only [zm108, ↓zo_12, ↓zLRz cr cR, zc130, if_pos c, zE_0, zE_1, zE_2, zE_3, zE_4, zE_5, zE_6, zE_7, zE_8, zE_9, zE_10, zE_11, zE_12, zE_13, zE_14, zE_neg, zc131, if_pos d, ↓zb_s, ↓zLRg cr cR, ↓zo_5, zCrA cR, ↓zo_0, zCa2 cA, zCr6_ cR, zE_inj, if_neg q1, if_neg q2]
        · obtain ⟨p, p1, p2⟩ := zp143 hM' wR (x := r) a1 a2
          obtain ⟨o, o1, o2⟩ := zp139i (h := h') (x := b) (lo := 0) (hi := 5) b1 b2 (by omega) (by omega) (by omega) (by omega)
          obtain ⟨g, g1, g2⟩ := zp156 hM' wR c.1 c.2
          have hM1 := hM'.ws 0 (by decide) 3
          rcases p1 with ⟨rfl, -⟩ | ⟨rfl, p1⟩
          · rcases o1 with ⟨rfl, -⟩ | ⟨rfl, o1⟩
            · show zm221 (some (13, 0)) (zE r) (zE b) h' = _
              have fin : zm221_35 (some (13, 0)) (zE r) (some (13, 0)) (zE 3) h' = some (.inl (zE 0), zsi h' 13 0 0 (zE 3)) := by
                simp only [zm221_35, ↓zM_ob, ↓zlet_s, zMs0 hM1, zup_s, zE_0, zE_1, zE_2, zE_3, zE_4, zE_5, zE_6, zE_7, zE_8, zE_9, zE_10, zE_11, zE_12, zE_13, zE_14, zE_neg, z4, if_false]
              by_cases q1 : s 4 (s 31 r) = b
              · simp (discharger := omega) only [zm221, ↓zM_ob, p2, zE_0, zE_1, zE_2, zE_3, zE_4, zE_5, zE_6, zE_7, zE_8, zE_9, zE_10, zE_11, zE_12, zE_13, zE_14, zE_neg, o2, zb_s, z1, if_false, ↓zMi31 hM', ↓zMi4 hM', zE_inj, if_pos q1]
                exact fin
              · by_cases q2 : s 38 r = 0
                · rcases g1 with ⟨rfl, g1⟩ | ⟨rfl, g1⟩
                  · simp (discharger := omega) only [zm221, ↓zM_ob, p2, zE_0, zE_1, zE_2, zE_3, zE_4, zE_5, zE_6, zE_7, zE_8, zE_9, zE_10, zE_11, zE_12, zE_13, zE_14, zE_neg, o2, zb_s, z1, if_false, ↓zMi31 hM', ↓zMi4 hM', ↓zMi38 hM', zE_inj, if_neg q1, if_pos q2, g2]
                    exact fin
                  · exact absurd q (fun z => z.elim q1 (fun z => z.elim (fun z => z q2) g1))
                · simp (discharger := omega) only [zm221, ↓zM_ob, p2, zE_0, zE_1, zE_2, zE_3, zE_4, zE_5, zE_6, zE_7, zE_8, zE_9, zE_10, zE_11, zE_12, zE_13, zE_14, zE_neg, o2, zb_s, z1, if_false, ↓zMi31 hM', ↓zMi4 hM', ↓zMi38 hM', zE_inj, if_neg q1, if_neg q2]
                  exact fin
            · exact absurd d o1
          · exact absurd c p1
      by_cases q1 : s 4 (s 31 r) = b
      · exact hbad (Or.inl q1)
      · by_cases q2 : s 38 r = 0
        · rcases e1 with ⟨rfl, e1⟩ | ⟨rfl, e1⟩
          · exact hbad (Or.inr (Or.inr e1))
          · have hW' : zWf (zup (zup s 38 r 1) 39 0 (s 39 0 + 1)) := by
              have w1 := zWr_u (r := r) (x := 1) wR (Or.inr (Or.inr ⟨rfl, by omega, by omega⟩))
              refine ⟨wA, wK, wC, wD, wP, ⟨w1.1, ?_, w1.2.2⟩, wZ, wT, wG, wE, wM, zWx_38 (r := r) (v := 1) wX (by omega)⟩
              rw [zup_s]
              have := wR.2.1
              omega
            have hC1 := zw_5_6 (x := 1) hC c.1 c.2
            have hC2 := zw_12_17 (x := s 39 0 + 1) hC1
            refine zokI (v := s 39 0 + 1) (h1 := zsi (zsi h 5 r.toNat 6 (zE 1)) 12 0 17 (zE (s 39 0 + 1))) (s' := zup (zup s 38 r 1) 39 0 (s 39 0 + 1)) (by omega) hW' ?_ hC2 ((zKp_i (fun z => z (by unfold zpc1; decide))).tr (zKp_i (fun z => z (by unfold zpc1; decide)))) (by show zce h ≤ _; omega) (by show zso h ≤ _; omega) (fun h' hM' => ?_)
            · have e17 : zi (zsi h 5 r.toNat 6 (zE 1)) 12 0 17 = zE (s 39 0) := zCs17 cs
              have e18 : zi (zsi (zsi h 5 r.toNat 6 (zE 1)) 12 0 17 (zE (s 39 0 + 1))) 12 0 17 = zE (s 39 0 + 1) := zi_s
              simp (discharger := omega) only [zm108, ↓zo_12, ↓zLRz cr cR, zc130, if_pos c, zE_0, zE_1, zE_2, zE_3, zE_4, zE_5, zE_6, zE_7, zE_8, zE_9, zE_10, zE_11, zE_12, zE_13, zE_14, zE_neg, zc131, if_pos d, ↓zb_s, ↓zLRg cr cR, ↓zo_5, zCrA cR, ↓zo_0, zCa2 cA, zCr6_ cR, zE_inj, if_neg q1, if_pos q2, e2, if_true, ↓zlet_s, e17, zE_add, e18]
            · obtain ⟨p, p1, p2⟩ := zp143 hM' wR (x := r) a1 a2
              obtain ⟨o, o1, o2⟩ := zp139i (h := h') (x := b) (lo := 0) (hi := 5) b1 b2 (by omega) (by omega) (by omega) (by omega)
              obtain ⟨g, g1, g2⟩ := zp156 hM' wR c.1 c.2
              have hM1 := hM'.ws 0 (by decide) 0
              have hM2 := hM1.wa (38, 238, 20) (by decide) r 1 c.1
              have hM3 := hM2.ws 39 (by decide) (s 39 0 + 1)
              have g0 : g = 0 := g1.u (zbo_0 e1)
              subst g0
              rcases p1 with ⟨rfl, -⟩ | ⟨rfl, p1⟩
              · rcases o1 with ⟨rfl, -⟩ | ⟨rfl, o1⟩
                · refine ⟨_, zsc_c (zsc_c zsc_up), rfl, _, ?_, hM3, ((zKp_i (fun z => z (Or.inl rfl))).tr (zKp_i (fun z => z (Or.inr (by decide))))).tr (zKp_i (fun z => z (Or.inl rfl))), rfl, rfl⟩
                  show zm221 (some (13, 0)) (zE r) (zE b) h' = _
                  have e17 : zi (zsi (zsi h' 13 0 0 (zE 0)) 238 0 r.toNat (zE 1)) 13 0 39 = zE (s 39 0) := by
                    have := zMs39 hM2
                    exact this
                  have e18 : zi (zsi (zsi (zsi h' 13 0 0 (zE 0)) 238 0 r.toNat (zE 1)) 13 0 39 (zE (s 39 0 + 1))) 13 0 39 = zE (s 39 0 + 1) := zi_s
                  simp (discharger := omega) only [zm221, zm221_35, ↓zM_ob, p2, zE_0, zE_1, zE_2, zE_3, zE_4, zE_5, zE_6, zE_7, zE_8, zE_9, zE_10, zE_11, zE_12, zE_13, zE_14, zE_neg, o2, zb_s, z1, if_false, ↓zMi31 hM', ↓zMi4 hM', ↓zMi38 hM', zE_inj, if_neg q1, if_pos q2, g2, if_true, ↓zlet_s, zMs0 hM1, zup_s, Int32.le_refl, ↓zMa38 hM1, e17, zE_add, e18]
                · exact absurd d o1
              · exact absurd c p1
        · exact hbad (Or.inr (Or.inl q2))
    · refine zexI (t := 2) hC hW0 (by omega) (by omega) ?_ (fun h' hM' => ?_)
      · simp (discharger := omega) only [zm108, ↓zo_12, ↓zLRz cr cR, zc130, if_pos c, zE_0, zE_1, zE_2, zE_3, zE_4, zE_5, zE_6, zE_7, zE_8, zE_9, zE_10, zE_11, zE_12, zE_13, zE_14, zE_neg, zc131, if_neg d, ↓zb_s, ↓zb_x]
        rfl
      · obtain ⟨p, p1, p2⟩ := zp143 hM' wR (x := r) a1 a2
        obtain ⟨o, o1, o2⟩ := zp139i (h := h') (x := b) (lo := 0) (hi := 5) b1 b2 (by omega) (by omega) (by omega) (by omega)
        have hM1 := hM'.ws 0 (by decide) 2
        rcases p1 with ⟨rfl, -⟩ | ⟨rfl, p1⟩
        · rcases o1 with ⟨rfl, o1⟩ | ⟨rfl, -⟩
          · exact absurd o1 d
          · simp (discharger := omega) only [zm221, zm221_35, ↓zM_ob, p2, zE_0, zE_1, zE_2, zE_3, zE_4, zE_5, zE_6, zE_7, zE_8, zE_9, zE_10, zE_11, zE_12, zE_13, zE_14, zE_neg, o2, zb_s, z1, if_false, if_true, ↓zlet_s, zMs0 hM1, zup_s, z3]
        · exact absurd c p1
  · refine zexI (t := 1) hC hW0 (by omega) (by omega) ?_ (fun h' hM' => ?_)
    · simp (discharger := omega) only [zm108, ↓zo_12, ↓zLRz cr cR, zc130, if_neg c, ↓zb_x, if_true]
    · obtain ⟨p, p1, p2⟩ := zp143 hM' wR (x := r) a1 a2
      have hM1 := hM'.ws 0 (by decide) 1
      rcases p1 with ⟨rfl, p1⟩ | ⟨rfl, -⟩
      · exact absurd p1 c
      · simp (discharger := omega) only [zm221, zm221_35, ↓zM_ob, p2, zE_0, zE_1, zE_2, zE_3, zE_4, zE_5, zE_6, zE_7, zE_8, zE_9, zE_10, zE_11, zE_12, zE_13, zE_14, zE_neg, zb_s, if_true, ↓zlet_s, zMs0 hM1, zup_s, z2, if_false]
