set_option maxRecDepth 16384
/-! What a step does: goes back, loses; takes a spot. -/
def zfin (s : zS) (v : Int) (t : zS) : Prop := zWf t ∧ (∀ j, j ≠ 12 → j ≠ 13 → j ≠ 14 → j ≠ 33 → j ≠ 34 → j ≠ 35 → j ≠ 37 → j ≠ 41 → j ≠ 42 → t j = s j) ∧ ∀ u, ¬ (3 * v ≤ u ∧ u < 3 * v + 3) → ¬ zoth3 s t u
theorem zfin_0 {s : zS} {v : Int} (hW : zWf s) : zfin s v s := ⟨hW, fun _ _ _ _ _ _ _ _ _ _ => rfl, fun u _ z => by
  unfold zoth3 zoth2 at z
  rcases z with (z | z) | z <;> exact z rfl⟩
theorem zen_r {t : zS} {r a e : Int} (he : e ≠ 1) : ∀ n : Nat, zen t r a e n 33 r = e
  | 0 => zup_s
  | n + 1 => by
    have ih := zen_r (t := t) (r := r) (a := a) he n
    show zenS (zen t r a e n) a n 33 r = e
    unfold zenS
    by_cases c : zen t r a e n 10 a ≠ 0 ∧ zen t r a e n 33 n = 1 ∧ zen t r a e n 3 (zen t r a e n 31 n) = zen t r a e n 3 a
    · rw [if_pos c, zup_j (by decide), zup_j (by decide), zup_j (by decide), zup_a (fun z => by rw [← z] at c; omega)]
      exact ih
    · rw [if_neg c]
      exact ih
theorem zfin_en {s t : zS} {r a e v : Int} (hW : zWf s) (w : zmw s t) (ho : ∀ u, ¬ (3 * v ≤ u ∧ u < 3 * v + 3) → t 12 u = s 12 u ∧ t 13 u = s 13 u ∧ t 14 u = s 14 u) (r0 : 0 ≤ r) (r1 : r < s 30 0) (he : 1 < e ∧ e ≤ 4) : zfin s v (zen t r a e (t 30 0).toNat) ∧ 1 < zen t r a e (t 30 0).toNat 33 r := by
  have W2 : zWf t := zWf_mw hW w
  have h20 := W2.2.2.2.2.2.1.1
  have e30 := w.1 30 (by decide) (by decide) (by decide)
  have xj : ∀ j, j ≠ 33 → j ≠ 34 → j ≠ 35 → j ≠ 37 → zen t r a e (t 30 0).toNat j = t j := fun j a b c d => zen_j a b c d _
  refine ⟨⟨zen_W W2 r0 (by rw [e30]; exact r1) he _ (by omega), fun j j1 j2 j3 j4 j5 j6 j7 _ _ => (xj j j4 j5 j6 j7).trans (w.1 j j1 j2 j3), fun u hu z => ?_⟩, by rw [zen_r (by omega)]; exact he.1⟩
  obtain ⟨o1, o2, o3⟩ := ho u hu
  unfold zoth3 zoth2 at z
  rw [xj 12 (by decide) (by decide) (by decide) (by decide), xj 13 (by decide) (by decide) (by decide) (by decide), xj 14 (by decide) (by decide) (by decide) (by decide), o1, o2, o3] at z
  rcases z with (z | z) | z <;> exact z rfl
/-- a choice between states -/
noncomputable def zits (P : Prop) (a b : zS) : zS := @ite _ P (Classical.propDecidable P) a b
theorem zits_t {P : Prop} {a b : zS} (h : P) : zits P a b = a := if_pos h
theorem zits_f {P : Prop} {a b : zS} (h : ¬ P) : zits P a b = b := if_neg h
/-- goes back -/
noncomputable def zbkT (s : zS) (r : Int) : zS := zen (zgb (zlos s (s 31 r) (s 3 (s 31 r)) 3) r 3) r (s 31 r) 3 (zgb (zlos s (s 31 r) (s 3 (s 31 r)) 3) r 3 30 0).toNat
theorem zbk_p {s : zS} {r : Int} (hW : zWf s) (r0 : 0 ≤ r) (r1 : r < s 30 0) : ∃ (t : zS) (c : Int), t = zbkT s r ∧ zfin s (s 3 (s 31 r)) t ∧ 1 < t 33 r ∧ (∀ h, zClM h s s → ∃ h', zm56 (some (12, 0)) (some (5, r.toNat)) h = some (.inl (zE c), h') ∧ zClM h' s t ∧ zfrC h h') := by
  have h20 := hW.2.2.2.2.2.1.1
  have a0 := (hW.2.2.2.2.2.1.2.2 r r0 r1).1
  have v0 := (hW.1.2 _ a0.1 a0.2).1
  have hn := hW.1.1
  obtain ⟨w1, w12, wo1⟩ := zlos_w (a := s 31 r) hW.2.1 v0.1 v0.2 a0.1 hn.1 3 (Nat.le_refl _)
  obtain ⟨w2, w13, w14, wo2⟩ := zgb_w w1 hW.1 hW.2.2.2.2.2.1 r0 r1 (v := s 3 (s 31 r)) rfl 3 (Nat.le_refl _)
  have W2 := zWf_mw hW w2
  have g30 := w2.1 30 (by decide) (by decide) (by decide)
  have g31 := w2.1 31 (by decide) (by decide) (by decide)
  have r2 : r < zgb (zlos s (s 31 r) (s 3 (s 31 r)) 3) r 3 30 0 := by rw [g30]; exact r1
  obtain ⟨f1, f2⟩ := zfin_en (a := s 31 r) (e := 3) (v := s 3 (s 31 r)) hW w2 (fun u hu => by
    rw [wo2 u hu, w12, w13, w14]
    exact ⟨rfl, wo1 u hu⟩) r0 r1 (by omega)
  refine ⟨_, zgc (zlos s (s 31 r) (s 3 (s 31 r)) 3) r 3, rfl, f1, f2, fun h hC => ?_⟩
  · obtain ⟨h1, c1, C1, F1⟩ := zc58 hC hW.1 hW.2.1 a0.1 a0.2 rfl
    obtain ⟨h2, c2, C2, F2⟩ := zc56_8 (k := zm56_24) C1 hW w1 w12 r0 r1 rfl
    obtain ⟨h3, c3, C3, F3⟩ := zc59 (e := 3) C2 W2 r0 r2 (a := s 31 r) (by rw [g31]) (by omega)
    refine ⟨h3, ?_, C3, (F1.tr F2).tr F3⟩
    have cR : zCR h s := hC.1.2.2.2.2.1
    rw [zm56, zo_5, zo_12, zCrA cR r0 r1, c1, zb_s, zE_0, c2, zm56_24, zo_12, zE_3, c3, zb_s]
/-- loses -/
def zlsT (s : zS) (r : Int) : zS := zen (zlos s (s 31 r) (s 3 (s 31 r)) 3) r (s 31 r) 4 (zlos s (s 31 r) (s 3 (s 31 r)) 3 30 0).toNat
theorem zls_p {s : zS} {r : Int} (hW : zWf s) (r0 : 0 ≤ r) (r1 : r < s 30 0) : ∃ t : zS, t = zlsT s r ∧ zfin s (s 3 (s 31 r)) t ∧ 1 < t 33 r ∧ (∀ h, zClM h s s → ∃ h1 h', zm58 (some (12, 0)) (some (0, (s 31 r).toNat)) h = some (.inl (), h1) ∧ zm59 (some (12, 0)) (some (5, r.toNat)) (zE 4) h1 = some (.inl (), h') ∧ zClM h' s t ∧ zfrC h h') := by
  have h20 := hW.2.2.2.2.2.1.1
  have a0 := (hW.2.2.2.2.2.1.2.2 r r0 r1).1
  have v0 := (hW.1.2 _ a0.1 a0.2).1
  have hn := hW.1.1
  obtain ⟨w1, w12, wo1⟩ := zlos_w (a := s 31 r) hW.2.1 v0.1 v0.2 a0.1 hn.1 3 (Nat.le_refl _)
  have W2 := zWf_mw hW w1
  have g30 := w1.1 30 (by decide) (by decide) (by decide)
  have g31 := w1.1 31 (by decide) (by decide) (by decide)
  have r2 : r < zlos s (s 31 r) (s 3 (s 31 r)) 3 30 0 := by rw [g30]; exact r1
  obtain ⟨f1, f2⟩ := zfin_en (a := s 31 r) (e := 4) (v := s 3 (s 31 r)) hW w1 (fun u hu => by
    rw [w12]
    exact ⟨rfl, wo1 u hu⟩) r0 r1 (by omega)
  refine ⟨_, rfl, f1, f2, fun h hC => ?_⟩
  · obtain ⟨h1, c1, C1, F1⟩ := zc58 hC hW.1 hW.2.1 a0.1 a0.2 rfl
    obtain ⟨h3, c3, C3, F3⟩ := zc59 (e := 4) C1 W2 r0 r2 (a := s 31 r) (by rw [g31]) (by omega)
    exact ⟨h1, h3, c1, c3, C3, F1.tr F3⟩

