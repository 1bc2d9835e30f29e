set_option maxRecDepth 16384
/-! conclude, except, approve: both sides. -/
theorem zWx_36 {s : zS} {r v : Int} (h : zWx s) (r1 : r < s 30 0) : zWx (zup s 36 r v) :=
  ⟨h.1, h.2.1, h.2.2.1, h.2.2.2.1, h.2.2.2.2.1, fun u u0 u1 => by
    obtain ⟨b1, b2, b3, b4, b5, b6⟩ := h.2.2.2.2.2.1 u u0 u1
    exact ⟨b1, b2, (zup_a (by have : s 30 0 ≤ u := u0; omega)).trans b3, b4, b5, b6⟩, h.2.2.2.2.2.2⟩
theorem zWx_38 {s : zS} {r v : Int} (h : zWx s) (r1 : r < s 30 0) : zWx (zup s 38 r v) :=
  ⟨h.1, h.2.1, h.2.2.1, h.2.2.2.1, h.2.2.2.2.1, fun u u0 u1 => by
    obtain ⟨b1, b2, b3, b4, b5, b6⟩ := h.2.2.2.2.2.1 u u0 u1
    exact ⟨b1, b2, b3, b4, (zup_a (by have : s 30 0 ≤ u := u0; omega)).trans b5, b6⟩, h.2.2.2.2.2.2⟩
theorem zWx_77 {s : zS} {r v : Int} (h : zWx s) (r1 : r < s 71 0) : zWx (zup s 77 r v) :=
  ⟨h.1, h.2.1, h.2.2.1, h.2.2.2.1, h.2.2.2.2.1, h.2.2.2.2.2.1, fun u u0 u1 => (zup_a (by have : s 71 0 ≤ u := u0; omega)).trans (h.2.2.2.2.2.2.1 u u0 u1), h.2.2.2.2.2.2.2⟩
theorem zc10 {h : zH} {s : zS} (hR : zCR h s) (hW : zWr s) {r : Int} (r1 : 0 ≤ r) (r2 : r < s 30 0) : ∃ b, zbo b (1 < s 33 r) ∧ zm10 (some (5, r.toNat)) h = some (.inl (zE b), h) := by
  have w := (hW.2.2 r r1 r2).2.2.1
  by_cases e0 : s 33 r = 0
  · exact ⟨0, zbo_0 (by omega), by simp (discharger := omega) only [zm10, ↓zo_5, zCr2_ hR, zE_0, zE_1, zE_2, zE_3, zE_4, zE_5, zE_6, zE_7, zE_8, zE_9, zE_10, zE_11, zE_12, zE_13, zE_14, zE_neg, zE_inj, e0, if_true]⟩
  · by_cases e1 : s 33 r = 1
    · refine ⟨0, zbo_0 (by omega), ?_⟩
      simp (discharger := omega) only [zm10, ↓zo_5, zCr2_ hR, zE_0, zE_1, zE_2, zE_3, zE_4, zE_5, zE_6, zE_7, zE_8, zE_9, zE_10, zE_11, zE_12, zE_13, zE_14, zE_neg, zE_inj, if_neg e0, if_pos e1]
    · exact ⟨1, zbo_1 (by omega), by simp (discharger := omega) only [zm10, ↓zo_5, zCr2_ hR, zE_0, zE_1, zE_2, zE_3, zE_4, zE_5, zE_6, zE_7, zE_8, zE_9, zE_10, zE_11, zE_12, zE_13, zE_14, zE_neg, zE_inj, e0, e1, if_false]⟩
/-- one place of a release -/
theorem zWr_u {s : zS} {f : Nat} {r x : Int} (hW : zWr s) (hf : f = 36 ∧ 0 ≤ x ∧ x ≤ 63 ∨ f = 37 ∧ 0 ≤ x ∧ x ≤ 1 ∨ f = 38 ∧ 0 ≤ x ∧ x ≤ 1) : zWr (zup s f r x) := by
  have e : ∀ j, j ≠ 36 → j ≠ 37 → j ≠ 38 → zup s f r x j = s j := fun j h1 h2 h3 => by
    funext b
    exact zup_j (by omega)
  refine ⟨?_, ?_, fun u u0 u1 => ?_⟩
  · rw [e 30 (by decide) (by decide) (by decide)]
    exact hW.1
  · rw [e 39 (by decide) (by decide) (by decide)]
    exact hW.2.1
  · rw [e 30 (by decide) (by decide) (by decide)] at u1
    obtain ⟨q1, q2, q3, q4, q5, q6, q7, q8, q9, q10, q11⟩ := hW.2.2 u u0 u1
    rw [e 31 (by decide) (by decide) (by decide), e 2 (by decide) (by decide) (by decide), e 32 (by decide) (by decide) (by decide), e 25 (by decide) (by decide) (by decide), e 33 (by decide) (by decide) (by decide), e 34 (by decide) (by decide) (by decide), e 26 (by decide) (by decide) (by decide), e 35 (by decide) (by decide) (by decide), e 1 (by decide) (by decide) (by decide), e 40 (by decide) (by decide) (by decide), e 58 (by decide) (by decide) (by decide), e 41 (by decide) (by decide) (by decide), e 42 (by decide) (by decide) (by decide), e 3 (by decide) (by decide) (by decide)]
    refine ⟨q1, q2, q3, q4, q5, q6, ?_, ?_, ?_, q10, q11⟩
    · by_cases ef : f = 36
      · subst ef
        by_cases eu : u = r
        · subst eu; rw [zup_s]; omega
        · rw [zup_a eu]; exact q7
      · rw [zup_j (fun z => ef z.symm)]; exact q7
    · by_cases ef : f = 37
      · subst ef
        by_cases eu : u = r
        · subst eu; rw [zup_s]; omega
        · rw [zup_a eu]; exact q8
      · rw [zup_j (fun z => ef z.symm)]; exact q8
    · by_cases ef : f = 38
      · subst ef
        by_cases eu : u = r
        · subst eu; rw [zup_s]; omega
        · rw [zup_a eu]; exact q9
      · rw [zup_j (fun z => ef z.symm)]; exact q9
