set_option maxRecDepth 16384
/-! A turn's middle: remembers, does, counts. -/
noncomputable def ztnT (s : zS) (r : Int) : zS := zco (zre s 12) (zdoT (zre s 12) r) 12
theorem ztn_c {s : zS} {r : Int} (hW : zWf s) (r0 : 0 ≤ r) (r1 : r < s 30 0) (h33 : s 33 r = 0) : zWf (ztnT s r) ∧ (∃ b, zbo b (1 < zdoT (zre s 12) r 33 r) ∧ (b = 0 → zdoT (zre s 12) r 33 r = 0) ∧ True) ∧ ∀ h, zCl h s → ∃ h1 h', zm78 (some (12, 0)) (some (5, r.toNat)) h = some (.inl (), h1) ∧ zClM h1 (zre s 12) (zdoT (zre s 12) r) ∧ zm60 (some (12, 0)) (some (9, (s 3 (s 31 r)).toNat)) h1 = some (.inl (), h') ∧ zCl h' (ztnT s r) ∧ zfrC h h' := by
  obtain ⟨f1, f2, f3⟩ := zre_j (s := s) 12
  have e3 := f1 3 (by decide) (by decide) (by decide) (by decide)
  have e30 := f1 30 (by decide) (by decide) (by decide) (by decide)
  have e31 := f1 31 (by decide) (by decide) (by decide) (by decide)
  have e33 := f1 33 (by decide) (by decide) (by decide) (by decide)
  have hWs : zWf (zre s 12) := hW.sc zre_sc
  have a0 := (hW.2.2.2.2.2.1.2.2 r r0 r1).1
  have v0 := (hW.1.2 _ a0.1 a0.2).1
  obtain ⟨t, b, rfl, t1, t2, t3, t4⟩ := zdo_p hWs r0 (by rw [e30]; exact r1) (by rw [e33]; exact h33)
  obtain ⟨t1a, t1b, t1c⟩ := t1
  rw [e31, e3] at t1c
  have jj : ∀ j, j ≠ 12 ∧ j ≠ 13 ∧ j ≠ 14 ∧ j ≠ 33 ∧ j ≠ 34 ∧ j ≠ 35 ∧ j ≠ 37 ∧ j ≠ 41 ∧ j ≠ 42 → zdoT (zre s 12) r j = zre s 12 j := fun j z => t1b j z.1 z.2.1 z.2.2.1 z.2.2.2.1 z.2.2.2.2.1 z.2.2.2.2.2.1 z.2.2.2.2.2.2.1 z.2.2.2.2.2.2.2.1 z.2.2.2.2.2.2.2.2
  refine ⟨?_, ⟨b, t2, t3, trivial⟩, fun h hC => ?_⟩
  · unfold ztnT
    rw [zco_12 (fun u hu z => t1c u (by omega) (Or.inl z))]
    exact zco_W t1a
  · obtain ⟨h1, b1, b2, b3⟩ := t4 h (hC.sc zre_sc)
    obtain ⟨h', d1, d2, d3⟩ := zc60 b2 v0.1 v0.2 t1c
    exact ⟨h1, h', b1, b2, d1, d2, b3.tr d3⟩

