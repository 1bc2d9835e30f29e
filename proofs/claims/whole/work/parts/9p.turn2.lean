set_option maxRecDepth 16384
/-! A turn: both sides. -/
def zjn (j : Nat) : Prop := j ≠ 0 ∧ j ≠ 12 ∧ j ≠ 13 ∧ j ≠ 14 ∧ j ≠ 15 ∧ j ≠ 16 ∧ j ≠ 17 ∧ j ≠ 33 ∧ j ≠ 34 ∧ j ≠ 35 ∧ j ≠ 37 ∧ j ≠ 41 ∧ j ≠ 42 ∧ j ≠ 45 ∧ j ≠ 47
theorem ztn_33 {s : zS} {r : Int} : ztnT s r 33 = zdoT (zre s 12) r 33 := (zco_j 12).1 33 (by decide) (by decide)
theorem ztn_j {s : zS} {r : Int} (hW : zWf s) (r0 : 0 ≤ r) (r1 : r < s 30 0) (h33 : s 33 r = 0) : ztnT s r 0 0 = 0 ∧ ∀ j, zjn j → ztnT s r j = s j := by
  obtain ⟨f1, f2, f3⟩ := zre_j (s := s) 12
  have e30 := f1 30 (by decide) (by decide) (by decide) (by decide)
  have e33 := f1 33 (by decide) (by decide) (by decide) (by decide)
  have hWs : zWf (zre s 12) := hW.sc zre_sc
  obtain ⟨t, b, rfl, t1, -⟩ := zdo_p hWs r0 (by rw [e30]; exact r1) (by rw [e33]; exact h33)
  obtain ⟨-, t1b, -⟩ := t1
  refine ⟨?_, fun j z => ?_⟩
  · unfold ztnT
    rw [(zco_j 12).1 0 (by decide) (by decide), t1b 0 (by decide) (by decide) (by decide) (by decide) (by decide) (by decide) (by decide) (by decide) (by decide)]
    exact f2
  · unfold zjn at z
    unfold ztnT
    rw [(zco_j 12).1 j (by omega) (by omega), t1b j (by omega) (by omega) (by omega) (by omega) (by omega) (by omega) (by omega) (by omega) (by omega)]
    exact f1 j (by omega) (by omega) (by omega) (by omega)
noncomputable def zttT (s : zS) (r : Int) : zS := if s 44 0 = 1 then zph s 1 0 else if s 44 0 = 2 then zph (ztnT s r) 1 0 else if 1 < ztnT s r 33 r then ztnT s r else zmvT (ztnT s r) r
noncomputable def zttB (s : zS) (r : Int) : Int := if s 44 0 = 1 then 0 else if s 44 0 = 2 then zcn1 (1 < ztnT s r 33 r) else 1
theorem zttB_r {s : zS} {r : Int} : zttB s r = 0 ∨ zttB s r = 1 := by
  unfold zttB
  by_cases c1 : s 44 0 = 1
  · rw [if_pos c1]; exact Or.inl rfl
  · rw [if_neg c1]
    by_cases c2 : s 44 0 = 2
    · rw [if_pos c2]
      have := zcn1_r (1 < ztnT s r 33 r)
      omega
    · rw [if_neg c2]; exact Or.inr rfl
theorem ztt_W {s : zS} {r : Int} (hW : zWf s) (r0 : 0 ≤ r) (r1 : r < s 30 0) (h33 : s 33 r = 0) : zWf (zttT s r) := by
  obtain ⟨W1, ⟨b, b1, b2, -⟩, -⟩ := ztn_c hW r0 r1 h33
  obtain ⟨-, j1⟩ := ztn_j hW r0 r1 h33
  have e30 := j1 30 (by unfold zjn; decide)
  unfold zttT
  by_cases c1 : s 44 0 = 1
  · rw [if_pos c1]
    exact zph_W hW (by omega) (by omega) (fun _ => rfl)
  · rw [if_neg c1]
    by_cases c2 : s 44 0 = 2
    · rw [if_pos c2]
      exact zph_W W1 (by omega) (by omega) (fun _ => rfl)
    · rw [if_neg c2]
      by_cases c3 : 1 < ztnT s r 33 r
      · rw [if_pos c3]
        exact W1
      · rw [if_neg c3]
        have z : ztnT s r 33 r = 0 := by
          rw [ztn_33] at c3 ⊢
          rcases b1 with ⟨-, b1⟩ | ⟨b1, -⟩
          · exact absurd b1 c3
          · exact b2 b1
        exact zmvT_W W1 r0 (by rw [e30]; exact r1) z
theorem ztt_j {s : zS} {r : Int} (hW : zWf s) (r0 : 0 ≤ r) (r1 : r < s 30 0) (h33 : s 33 r = 0) : (s 0 0 = 0 → zttT s r 0 0 = 0) ∧ ∀ j, zjn j → j ≠ 43 → j ≠ 44 → zttT s r j = s j := by
  obtain ⟨j0, j1⟩ := ztn_j hW r0 r1 h33
  have m : ∀ j, j ≠ 43 → j ≠ 44 → j ≠ 33 → j ≠ 34 → j ≠ 35 → j ≠ 37 → zttT s r j = (if s 44 0 = 1 then s else ztnT s r) j := fun j h h1 h2 h3 h4 h5 => by
    unfold zttT
    by_cases c1 : s 44 0 = 1
    · rw [if_pos c1, if_pos c1, zph_j h h1]
    · rw [if_neg c1, if_neg c1]
      by_cases c2 : s 44 0 = 2
      · rw [if_pos c2, zph_j h h1]
      · rw [if_neg c2]
        by_cases c3 : 1 < ztnT s r 33 r
        · rw [if_pos c3]
        · rw [if_neg c3, zmvT_j h2 h3 h4 h5]
  refine ⟨fun z => ?_, fun j z h h1 => ?_⟩
  · rw [m 0 (by decide) (by decide) (by decide) (by decide) (by decide) (by decide)]
    by_cases c1 : s 44 0 = 1
    · rw [if_pos c1]; exact z
    · rw [if_neg c1]; exact j0
  · have z' := z
    unfold zjn at z'
    rw [m j h h1 (by omega) (by omega) (by omega) (by omega)]
    by_cases c1 : s 44 0 = 1
    · rw [if_pos c1]
    · rw [if_neg c1]; exact j1 j z
/-- the class -/
theorem zc77 {h : zH} {s : zS} {r : Int} (hC : zCl h s) (hW : zWf s) (r0 : 0 ≤ r) (r1 : r < s 30 0) (h33 : s 33 r = 0) (h43 : s 43 0 = 0) : ∃ h', zm77 (some (12, 0)) (some (5, r.toNat)) h = some (.inl (zE (zttB s r)), h') ∧ zCl h' (zttT s r) ∧ zfrC h h' := by
  have z1 : ¬ zE 1 = zE 0 := by decide
  have z2 : ¬ zE 2 = zE 1 := by decide
  have z3 : ¬ zE 0 = zE 1 := by decide
  have z4 : ¬ zE 0 = zE 2 := by decide
  have h44 := hW.2.2.2.2.2.2.2.2.2.2.2.2.1
  have cs : zCs h s := hC.2.1
  have a0 := (hW.2.2.2.2.2.1.2.2 r r0 r1).1
  have v0 := (hW.1.2 _ a0.1 a0.2).1
  by_cases c1 : s 44 0 = 1
  · refine ⟨zsi h 12 0 13 (zE 1), ?_, ?_, zfrC_i (by unfold zpc1; decide)⟩
    · rw [zm77, zo_12, zCs12 cs h43, c1, zE_1, if_pos rfl, zlet_s]
      unfold zttB
      rw [if_pos c1, zE_0]
    · unfold zttT
      rw [if_pos c1]
      exact zw_turn hC
  · obtain ⟨W1, ⟨b, b1, b2, -⟩, hc⟩ := ztn_c hW r0 r1 h33
    obtain ⟨h1, h', e1, e2, e3, e4, e5⟩ := hc h hC
    obtain ⟨-, j1⟩ := ztn_j hW r0 r1 h33
    have e30 := j1 30 (by unfold zjn; decide)
    have e43 := j1 43 (by unfold zjn; decide)
    have e44 := j1 44 (by unfold zjn; decide)
    obtain ⟨f1, f2, f3⟩ := zre_j (s := s) 12
    have hWs : zWf (zre s 12) := hW.sc zre_sc
    obtain ⟨t, bb, t0, t1, -⟩ := zdo_p hWs r0 (by rw [f1 30 (by decide) (by decide) (by decide) (by decide)]; exact r1) (by rw [f1 33 (by decide) (by decide) (by decide) (by decide)]; exact h33)
    rw [t0] at t1
    obtain ⟨-, t1b, -⟩ := t1
    have k : ∀ j, zjn j → zdoT (zre s 12) r j = s j := fun j z => by
      unfold zjn at z
      rw [t1b j (by omega) (by omega) (by omega) (by omega) (by omega) (by omega) (by omega) (by omega) (by omega)]
      exact f1 j (by omega) (by omega) (by omega) (by omega)
    have cr1 : zCr h1 := e2.1.1
    have cA1 : zCA h1 (zdoT (zre s 12) r) := e2.1.2.2.1
    have cR1 : zCR h1 (zdoT (zre s 12) r) := e2.1.2.2.2.2.1
    have cV1 : zCV h1 (zdoT (zre s 12) r) := e2.1.2.2.2.2.2.2.2.2.1
    have g1 : zr h1 5 r.toNat 0 = some (0, (s 31 r).toNat) := by
      have := zCrA cR1 r0 (by rw [k 30 (by unfold zjn; decide)]; exact r1)
      rwa [k 31 (by unfold zjn; decide)] at this
    have g2 : zi h1 0 (s 31 r).toNat 1 = zE (s 3 (s 31 r)) := by
      have := zCa1 cA1 a0.1 (by rw [k 2 (by unfold zjn; decide)]; exact a0.2)
      rwa [k 3 (by unfold zjn; decide)] at this
    have cs' : zCs h' (ztnT s r) := e4.2.1
    have cR' : zCR h' (ztnT s r) := e4.2.2.2.2.1
    have g12 : zi h' 12 0 12 = zE (s 44 0) := by
      have := zCs12 cs' (by rw [e43]; exact h43)
      rwa [e44] at this
    obtain ⟨q, q1, q2⟩ := zc10 cR' W1.2.2.2.2.2.1 r0 (by rw [e30]; exact r1)
    have qb : q = b := q1.u (by rw [ztn_33]; exact b1)
    subst qb
    have go : zm77 (some (12, 0)) (some (5, r.toNat)) h = if zE (s 44 0) = zE 2 then zlet (zsi h' 12 0 13 (zE 1)) fun h50 => zif (zE q = 0 ∨ zE q = 1) <| some (.inl (zE q), h50) else if zE q = zE 0 then zb (zm80 (some (12, 0)) (some (5, r.toNat)) h') fun _ h54 => some (.inl (zE 1), h54) else some (.inl (zE 1), h') := by
      rw [zm77, zo_12, zCs12 cs h43, zE_1, if_neg (by rw [zE_inj (by omega) (by omega) (by omega) (by omega)]; exact c1), e1, zb_s, zo_5, g1, zo_0, g2, zLVa cr1 cV1 v0.1 v0.2, e3, zb_s, q2, zb_s, g12, zE_2, zE_0]
    rw [go]
    by_cases c2 : s 44 0 = 2
    · refine ⟨zsi h' 12 0 13 (zE 1), ?_, ?_, e5.tr (zfrC_i (by unfold zpc1; decide))⟩
      · rw [if_pos (by rw [c2]), zlet_s, zif_s q1.e]
        unfold zttB
        rw [if_neg c1, if_pos c2, zcn1_b q1]
      · unfold zttT
        rw [if_neg c1, if_pos c2]
        exact zw_turn e4
    · have n2 : ¬ zE (s 44 0) = zE 2 := by rw [zE_inj (by omega) (by omega) (by omega) (by omega)]; exact c2
      rw [if_neg n2]
      have eB : zttB s r = 1 := by
        unfold zttB
        rw [if_neg c1, if_neg c2]
      rw [eB]
      rcases q1 with ⟨rfl, q1⟩ | ⟨rfl, q1⟩
      · refine ⟨h', by rw [if_neg z1], ?_, e5⟩
        unfold zttT
        rw [if_neg c1, if_neg c2, if_pos q1]
        exact e4
      · obtain ⟨h2, d1, d2, d3⟩ := zc80 e4 W1 r0 (by rw [e30]; exact r1) (by rw [ztn_33]; exact b2 rfl)
        refine ⟨h2, by rw [if_pos rfl, d1, zb_s], ?_, e5.tr d3⟩
        unfold zttT
        rw [if_neg c1, if_neg c2, if_neg q1]
        exact d2
/-- the model -/
theorem zp185 {h : zH} {s : zS} {r : Int} (hM : zMd h s) (hW : zWf s) (s0 : s 0 0 = 0) (r0 : 0 ≤ r) (r1 : r < s 30 0) : ∃ h', zm185 (some (13, 0)) (zE r) h = some (.inl (zE (zitp (s 43 0 = 0 ∧ s 33 r = 0 ∧ zE (zrsn s r) = zE 0) (zttB s r) 0)), h') ∧ zMd h' (zits (s 43 0 = 0 ∧ s 33 r = 0 ∧ zE (zrsn s r) = zE 0) (zttT s r) s) ∧ zfrM h h' := by
  have z1 : ¬ zE 1 = zE 0 := by decide
  have z2 : ¬ zE 2 = zE 1 := by decide
  have z3 : ¬ zE 0 = zE 1 := by decide
  have z5 : ¬ zE 2 = zE 0 := by decide
  have h43 := hW.2.2.2.2.2.2.2.2.2.2.2.1
  have h44 := hW.2.2.2.2.2.2.2.2.2.2.2.2.1
  have h20 := hW.2.2.2.2.2.1.1
  have hr := (hW.2.2.2.2.2.1.2.2 r r0 r1).2.2.1
  have out : ∀ P : Prop, ¬ P → zm185 (some (13, 0)) (zE r) h = some (.inl (zE 0), h) → ∃ h', zm185 (some (13, 0)) (zE r) h = some (.inl (zE (zitp P (zttB s r) 0)), h') ∧ zMd h' (zits P (zttT s r) s) ∧ zfrM h h' := fun P hP e => by
    rw [zitp_f hP, zits_f hP]
    exact ⟨h, e, hM, zfrM.rf⟩
  by_cases c43 : s 43 0 = 0
  · by_cases c33 : s 33 r = 0
    · have e171 := zp171 hM hW r0 r1 (by omega)
      by_cases cr : zE (zrsn s r) = zE 0
      · rw [zitp_t ⟨c43, c33, cr⟩, zits_t ⟨c43, c33, cr⟩]
        rw [cr] at e171
        obtain ⟨x, hx⟩ : ∃ x : Int, x = if s 44 0 = 0 then 0 else 1 := ⟨_, rfl⟩
        have x01 : x = 0 ∨ x = 1 := by
          rw [hx]
          by_cases c : s 44 0 = 0
          · rw [if_pos c]; exact Or.inl rfl
          · rw [if_neg c]; exact Or.inr rfl
        have N1 : zMd (zsi h 13 0 43 (zE x)) (zup s 43 0 x) := hM.ws 43 (by decide) x
        have N2 : zMd (zsi (zsi h 13 0 43 (zE x)) 13 0 44 (zE 0)) (zph s x 0) := N1.ws 44 (by decide) 0
        have F : zfrM h (zsi (zsi h 13 0 43 (zE x)) 13 0 44 (zE 0)) := (zfrM_i (Or.inl rfl)).tr (zfrM_i (Or.inl rfl))
        have go : zm185 (some (13, 0)) (zE r) h = zm185_23 (some (13, 0)) (zE r) (zE (s 44 0)) (some (13, 0)) (zE x) h := by
          rw [zm185, zM_ob, zMs43 hM, c43, zE_0, if_pos rfl, zMi33 hM r0 (by omega), c33, if_pos rfl, e171, zb_s, if_pos rfl, zlet_s, zMs44 hM, hx]
          by_cases c : s 44 0 = 0
          · rw [if_pos c, c, if_pos (Int32.le_refl _)]
          · rw [if_neg c, if_neg (by rw [zE_le (by omega) (by omega) (by omega) (by omega)]; omega), zE_1]
        rw [go, zm185_23, zM_ob, zif_s (zE_01 x01), zlet_s, zM_ob, zE_0, zlet_s, zE_1]
        by_cases c1 : s 44 0 = 1
        · refine ⟨_, ?_, ?_, F⟩
          · rw [if_pos (by rw [c1])]
            unfold zttB
            rw [if_pos c1]
          · have : x = 1 := by rw [hx, if_neg (by omega)]
            unfold zttT
            rw [if_pos c1, ← this]
            exact N2
        · rw [if_neg (by rw [zE_inj (by omega) (by omega) (by omega) (by omega)]; exact c1)]
          have W2 : zWf (zph s x 0) := zph_W hW (by omega) (by omega) (fun _ => rfl)
          have N3 : zMd (zsi (zsi h 13 0 43 (zE x)) 13 0 44 (zE 0)) (zup (zph s x 0) 0 0 0) := by
            rw [zup_id (show zph s x 0 0 0 = 0 from s0)]
            exact N2
          obtain ⟨h1, d1, M1, G1⟩ := zp173 N3
          obtain ⟨W3, ⟨b, b1, b2, hm⟩, -⟩ := ztn_c W2 r0 (show r < zph s x 0 30 0 from r1) (show zph s x 0 33 r = 0 from c33)
          obtain ⟨h2, h3, d2, d3, M3, G3⟩ := hm h1 M1
          have eT : ztnT (zph s x 0) r = zph (ztnT s r) x 0 := by
            unfold ztnT
            rw [zph_re, zph_doT, zph_cp]
          have e33 : zdoT (zre (zph s x 0) 12) r 33 r = ztnT s r 33 r := by
            rw [← ztn_33, eT]
            rfl
          rw [e33] at b1 b2
          rw [eT] at M3 W3
          rw [d1, zb_s, d2, zb_s, d3, zb_s]
          by_cases c2 : s 44 0 = 2
          · have ex : x = 1 := by rw [hx, if_neg (by omega)]
            refine ⟨h3, ?_, ?_, (F.tr G1).tr G3⟩
            · have eB : zttB s r = b := by
                unfold zttB
                rw [if_neg c1, if_pos c2, zcn1_b b1]
              rw [eB, c2]
              rcases b1 with ⟨rfl, b1⟩ | ⟨rfl, b1⟩
              · rw [if_neg z1, zm185_47, zE_0, if_neg z1, zE_1]
              · rw [if_pos rfl, if_neg z5, zm185_47, zE_0, if_pos rfl, if_neg z5]
            · unfold zttT
              rw [if_neg c1, if_pos c2, ← ex]
              exact M3
          · have c0 : s 44 0 = 0 := by omega
            have ex : x = 0 := by rw [hx, if_pos c0]
            have eB : zttB s r = 1 := by
              unfold zttB
              rw [if_neg c1, if_neg c2]
            obtain ⟨-, j1⟩ := ztn_j hW r0 r1 c33
            have e30 := j1 30 (by unfold zjn; decide)
            have e43 := j1 43 (by unfold zjn; decide)
            have e44 := j1 44 (by unfold zjn; decide)
            have eP : zph (ztnT s r) x 0 = ztnT s r := by
              unfold zph
              rw [ex, zup_id (show ztnT s r 43 0 = 0 by rw [e43]; exact c43), zup_id (show ztnT s r 44 0 = 0 by rw [e44]; exact c0)]
            rw [eP] at M3 W3
            rw [eB, c0]
            rcases b1 with ⟨rfl, b1⟩ | ⟨rfl, b1⟩
            · refine ⟨h3, ?_, ?_, (F.tr G1).tr G3⟩
              · rw [if_neg z1, zm185_47, zE_0, if_neg z1, zE_1]
              · unfold zttT
                rw [if_neg c1, if_neg c2, if_pos b1]
                exact M3
            · obtain ⟨h4, f1, f2, f3⟩ := zp182 M3 W3 r0 (by rw [e30]; exact r1) (b2 rfl)
              refine ⟨h4, ?_, ?_, ((F.tr G1).tr G3).tr f3⟩
              · rw [if_pos rfl, if_pos rfl, f1, zb_s, zm185_47, zE_0, if_pos rfl, if_pos rfl, zE_1]
              · unfold zttT
                rw [if_neg c1, if_neg c2, if_neg b1]
                exact f2
      · refine out _ (fun z => cr z.2.2) ?_
        rw [zm185, zM_ob, zMs43 hM, c43, zE_0, if_pos rfl, zMi33 hM r0 (by omega), c33, if_pos rfl, e171, zb_s, if_neg cr]
    · refine out _ (fun z => c33 z.2.1) ?_
      rw [zm185, zM_ob, zMs43 hM, c43, zE_0, if_pos rfl, zMi33 hM r0 (by omega), if_neg (by rw [zE_inj (by omega) (by omega) (by omega) (by omega)]; exact c33)]
  · refine out _ (fun z => c43 z.1) ?_
    rw [zm185, zM_ob, zMs43 hM, zE_0, if_neg (by rw [zE_inj (by omega) (by omega) (by omega) (by omega)]; exact c43)]
