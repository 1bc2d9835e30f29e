set_option maxRecDepth 16384
/-! A turn: both sides. -/
def zjn (j : Nat) : Prop := j ≠ 0 ∧ j ≠ 12 ∧ j ≠ 13 ∧ j ≠ 14 ∧ j ≠ 15 ∧ j ≠ 16 ∧ j ≠ 17 ∧ j ≠ 33 ∧ j ≠ 34 ∧ j ≠ 35 ∧ j ≠ 37 ∧ j ≠ 41 ∧ j ≠ 42 ∧ j ≠ 45 ∧ j ≠ 47
theorem ztn_33 {s : zS} {r : Int} : ztnT s r 33 = zdoT (zre s 12) r 33 := (zco_j 12).1 33 (by decide) (by decide)
theorem ztn_j {s : zS} {r : Int} (hW : zWf s) (r0 : 0 ≤ r) (r1 : r < s 30 0) (h33 : s 33 r = 0) : ztnT s r 0 0 = 0 ∧ ∀ j, zjn j → ztnT s r j = s j := by
  obtain ⟨f1, f2, f3⟩ := zre_j (s := s) 12
  have e30 := f1 30 (by decide) (by decide) (by decide) (by decide)
  have e33 := f1 33 (by decide) (by decide) (by decide) (by decide)
  have hWs : zWf (zre s 12) := hW.sc zre_sc
  obtain ⟨t, b, rfl, t1, -⟩ := zdo_p hWs r0 (by rw [e30]; exact r1) (by rw [e33]; exact h33)
  obtain ⟨-, t1b, -⟩ := t1
  refine ⟨?_, fun j z => ?_⟩
  · unfold ztnT
    rw [(zco_j 12).1 0 (by decide) (by decide), t1b 0 (by decide) (by decide) (by decide) (by decide) (by decide) (by decide) (by decide) (by decide) (by decide)]
    exact f2
  · unfold zjn at z
    unfold ztnT
    rw [(zco_j 12).1 j (by omega) (by omega), t1b j (by omega) (by omega) (by omega) (by omega) (by omega) (by omega) (by omega) (by omega) (by omega)]
    exact f1 j (by omega) (by omega) (by omega) (by omega)
noncomputable def zttT (s : zS) (r : Int) : zS := if s 44 0 = 1 then zph s 1 0 else if s 44 0 = 2 then zph (ztnT s r) 1 0 else if 1 < ztnT s r 33 r then ztnT s r else zmvT (ztnT s r) r
noncomputable def zttB (s : zS) (r : Int) : Int := if s 44 0 = 1 then 0 else if s 44 0 = 2 then zcn1 (1 < ztnT s r 33 r) else 1
theorem zttB_r {s : zS} {r : Int} : zttB s r = 0 ∨ zttB s r = 1 := by
  unfold zttB
  by_cases c1 : s 44 0 = 1
  · rw [if_pos c1]; exact Or.inl rfl
  · rw [if_neg c1]
    by_cases c2 : s 44 0 = 2
    · rw [if_pos c2]
      have := zcn1_r (1 < ztnT s r 33 r)
      omega
    · rw [if_neg c2]; exact Or.inr rfl
theorem ztt_W {s : zS} {r : Int} (hW : zWf s) (r0 : 0 ≤ r) (r1 : r < s 30 0) (h33 : s 33 r = 0) : zWf (zttT s r) := by
  obtain ⟨W1, ⟨b, b1, b2, -⟩, -⟩ := ztn_c hW r0 r1 h33
  obtain ⟨-, j1⟩ := ztn_j hW r0 r1 h33
  have e30 := j1 30 (by unfold zjn; decide)
  unfold zttT
  by_cases c1 : s 44 0 = 1
  · rw [if_pos c1]
    exact zph_W hW (by omega) (by omega) (fun _ => rfl)
  · rw [if_neg c1]
    by_cases c2 : s 44 0 = 2
    · rw [if_pos c2]
      exact zph_W W1 (by omega) (by omega) (fun _ => rfl)
    · rw [if_neg c2]
      by_cases c3 : 1 < ztnT s r 33 r
      · rw [if_pos c3]
        exact W1
      · rw [if_neg c3]
        have z : ztnT s r 33 r = 0 := by
          rw [ztn_33] at c3 ⊢
          rcases b1 with ⟨-, b1⟩ | ⟨b1, -⟩
          · exact absurd b1 c3
          · exact b2 b1
        exact zmvT_W W1 r0 (by rw [e30]; exact r1) z
theorem ztt_j {s : zS} {r : Int} (hW : zWf s) (r0 : 0 ≤ r) (r1 : r < s 30 0) (h33 : s 33 r = 0) : (s 0 0 = 0 → zttT s r 0 0 = 0) ∧ ∀ j, zjn j → j ≠ 43 → j ≠ 44 → zttT s r j = s j := by
  obtain ⟨j0, j1⟩ := ztn_j hW r0 r1 h33
  have m : ∀ j, j ≠ 43 → j ≠ 44 → j ≠ 33 → j ≠ 34 → j ≠ 35 → j ≠ 37 → zttT s r j = (if s 44 0 = 1 then s else ztnT s r) j := fun j h h1 h2 h3 h4 h5 => by
    unfold zttT
    by_cases c1 : s 44 0 = 1
    · rw [if_pos c1, if_pos c1, zph_j h h1]
    · rw [if_neg c1, if_neg c1]
      by_cases c2 : s 44 0 = 2
      · rw [if_pos c2, zph_j h h1]
      · rw [if_neg c2]
        by_cases c3 : 1 < ztnT s r 33 r
        · rw [if_pos c3]
        · rw [if_neg c3, zmvT_j h2 h3 h4 h5]
  refine ⟨fun z => ?_, fun j z h h1 => ?_⟩
  · rw [m 0 (by decide) (by decide) (by decide) (by decide) (by decide) (by decide)]
    by_cases c1 : s 44 0 = 1
    · rw [if_pos c1]; exact z
    · rw [if_neg c1]; exact j0
  · have z' := z
    unfold zjn at z'
    rw [m j h h1 (by omega) (by omega) (by omega) (by omega)]
    by_cases c1 : s 44 0 = 1
    · rw [if_pos c1]
    · rw [if_neg c1]; exact j1 j z
/-- the class -/
theorem zc77 {h : zH} {s : zS} {r : Int} (hC : zCl h s) (hW : zWf s) (r0 : 0 ≤ r) (r1 : r < s 30 0) (h33 : s 33 r = 0) (h43 : s 43 0 = 0) : ∃ h', zm77 (some (12, 0)) (some (5, r.toNat)) h = some (.inl (zE (zttB s r)), h') ∧ zCl h' (zttT s r) ∧ zfrC h h' := by
  have z1 : ¬ zE 1 = zE 0 := by decide
  have z2 : ¬ zE 2 = zE 1 := by decide
  have z3 : ¬ zE 0 = zE 1 := by decide
  have z4 : ¬ zE 0 = zE 2 := by decide
  have h44 := hW.2.2.2.2.2.2.2.2.2.2.2.2.1
  have cs : zCs h s := hC.2.1
  have a0 := (hW.2.2.2.2.2.1.2.2 r r0 r1).1
  have v0 := (hW.1.2 _ a0.1 a0.2).1
  by_cases c1 : s 44 0 = 1
  · refine ⟨zsi h 12 0 13 (zE 1), ?_, ?_, zfrC_i (by unfold zpc1; decide)⟩
    · rw [zm77, zo_12, zCs12 cs h43, c1, zE_1, if_pos rfl, zlet_s]
      unfold zttB
      rw [if_pos c1, zE_0]
    · unfold zttT
      rw [if_pos c1]
      exact zw_turn hC
  · obtain ⟨W1, ⟨b, b1, b2, -⟩, hc⟩ := ztn_c hW r0 r1 h33
    obtain ⟨h1, h', e1, e2, e3, e4, e5⟩ := hc h hC
    obtain ⟨-, j1⟩ := ztn_j hW r0 r1 h33
    have e30 := j1 30 (by unfold zjn; decide)
    have e43 := j1 43 (by unfold zjn; decide)
    have e44 := j1 44 (by unfold zjn; decide)
    obtain ⟨f1, f2, f3⟩ := zre_j (s := s) 12
    have hWs : zWf (zre s 12) := hW.sc zre_sc
    obtain ⟨t, bb, t0, t1, -⟩ := zdo_p hWs r0 (by rw [f1 30 (by decide) (by decide) (by decide) (by decide)]; exact r1) (by rw [f1 33 (by decide) (by decide) (by decide) (by decide)]; exact h33)
    rw [t0] at t1
    obtain ⟨-, t1b, -⟩ := t1
    have k : ∀ j, zjn j → zdoT (zre s 12) r j = s j := fun j z => by
      unfold zjn at z
      rw [t1b j (by omega) (by omega) (by omega) (by omega) (by omega) (by omega) (by omega) (by omega) (by omega)]
      exact f1 j (by omega) (by omega) (by omega) (by omega)
    have cr1 : zCr h1 := e2.1.1
    have cA1 : zCA h1 (zdoT (zre s 12) r) := e2.1.2.2.1
    have cR1 : zCR h1 (zdoT (zre s 12) r) := e2.1.2.2.2.2.1
    have cV1 : zCV h1 (zdoT (zre s 12) r) := e2.1.2.2.2.2.2.2.2.2.1
    have g1 : zr h1 5 r.toNat 0 = some (0, (s 31 r).toNat) := by
      have := zCrA cR1 r0 (by rw [k 30 (by unfold zjn; decide)]; exact r1)
      rwa [k 31 (by unfold zjn; decide)] at this
    have g2 : zi h1 0 (s 31 r).toNat 1 = zE (s 3 (s 31 r)) := by
      have := zCa1 cA1 a0.1 (by rw [k 2 (by unfold zjn; decide)]; exact a0.2)
      rwa [k 3 (by unfold zjn; decide)] at this
    have cs' : zCs h' (ztnT s r) := e4.2.1
    have cR' : zCR h' (ztnT s r) := e4.2.2.2.2.1
    have g12 : zi h' 12 0 12 = zE (s 44 0) := by
      have := zCs12 cs' (by rw [e43]; exact h43)
      rwa [e44] at this
    obtain ⟨q, q1, q2⟩ := zc10 cR' W1.2.2.2.2.2.1 r0 (by rw [e30]; exact r1)
    have qb : q = b := q1.u (by rw [ztn_33]; exact b1)
    subst qb
    have go : zm77 (some (12, 0)) (some (5, r.toNat)) h = if zE (s 44 0) = zE 2 then zlet (zsi h' 12 0 13 (zE 1)) fun h50 => zif (zE q = 0 ∨ zE q = 1) <| some (.inl (zE q), h50) else if zE q = zE 0 then zb (zm80 (some (12, 0)) (some (5, r.toNat)) h') fun _ h54 => some (.inl (zE 1), h54) else some (.inl (zE 1), h') := by
      rw [zm77, zo_12, zCs12 cs h43, zE_1, if_neg (by rw [zE_inj (by omega) (by omega) (by omega) (by omega)]; exact c1), e1, zb_s, zo_5, g1, zo_0, g2, zLVa cr1 cV1 v0.1 v0.2, e3, zb_s, q2, zb_s, g12, zE_2, zE_0]
    rw [go]
    by_cases c2 : s 44 0 = 2
    · refine ⟨zsi h' 12 0 13 (zE 1), ?_, ?_, e5.tr (zfrC_i (by unfold zpc1; decide))⟩
      · rw [if_pos (by rw [c2]), zlet_s, zif_s q1.e]
        unfold zttB
        rw [if_neg c1, if_pos c2, zcn1_b q1]
      · unfold zttT
        rw [if_neg c1, if_pos c2]
        exact zw_turn e4
    · have n2 : ¬ zE (s 44 0) = zE 2 := by rw [zE_inj (by omega) (by omega) (by omega) (by omega)]; exact c2
      rw [if_neg n2]
      have eB : zttB s r = 1 := by
        unfold zttB
        rw [if_neg c1, if_neg c2]
      rw [eB]
      rcases q1 with ⟨rfl, q1⟩ | ⟨rfl, q1⟩
      · refine ⟨h', by rw [if_neg z1], ?_, e5⟩
        unfold zttT
        rw [if_neg c1, if_neg c2, if_pos q1]
        exact e4
      · obtain ⟨h2, d1, d2, d3⟩ := zc80 e4 W1 r0 (by rw [e30]; exact r1) (by rw [ztn_33]; exact b2 rfl)
        refine ⟨h2, by rw [if_pos rfl, d1, zb_s], ?_, e5.tr d3⟩
        unfold zttT
        rw [if_neg c1, if_neg c2, if_neg q1]
        exact d2
