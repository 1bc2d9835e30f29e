set_option maxRecDepth 16384
/-! Why a step does not go on. -/
noncomputable def zitp (P : Prop) (a b : Int) : Int := @ite _ P (Classical.propDecidable P) a b
theorem zitp_t {P : Prop} {a b : Int} (h : P) : zitp P a b = a := if_pos h
theorem zitp_f {P : Prop} {a b : Int} (h : ¬ P) : zitp P a b = b := if_neg h
theorem zitp_b {P : Prop} {a b x : Int} (h : zbo x P) : zitp P a b = (if x = 1 then a else b) := by
  rcases h with ⟨rfl, h⟩ | ⟨rfl, h⟩
  · rw [zitp_t h, if_pos rfl]
  · rw [zitp_f h, if_neg (by decide)]
noncomputable def zmyF (s : zS) (a : Int) : Int := zitp (zmyV s a 0) 0 (zitp (zmyV s a 6) 6 (zitp (zmyV s a 7) 7 (Classical.epsilon (zmyV s a))))
theorem zmyF_e {s : zS} {a v : Int} (h : zmyV s a v) : zmyF s a = v := by
  unfold zmyF
  by_cases h0 : zmyV s a 0
  · rw [zitp_t h0]; exact zmyV_u h0 h
  · rw [zitp_f h0]
    by_cases h6 : zmyV s a 6
    · rw [zitp_t h6]; exact zmyV_u h6 h
    · rw [zitp_f h6]
      by_cases h7 : zmyV s a 7
      · rw [zitp_t h7]; exact zmyV_u h7 h
      · rw [zitp_f h7]; exact zmyV_u (Classical.epsilon_spec ⟨v, h⟩) h
theorem zcn1_o {P : Prop} : zbo (zcn1 P) P := by
  by_cases h : P
  · rw [zcn1_t h]; exact zbo_1 h
  · rw [zcn1_f h]; exact zbo_0 h
def zriv (s : zS) (a k : Int) : Prop := zov s a k ∧ ¬ (s 10 a ≠ 0 ∧ s 10 (s 13 k) = 0)
/-- why a SHARE or a PROMOTE does not go on -/
noncomputable def zbr (s : zS) (r g sh : Int) : Int := zitp (s 12 (3 * s 3 (s 31 r) + g) = s 31 r ∨ s 31 r < s 12 (3 * s 3 (s 31 r) + g)) 0 (zitp (s 50 (s 3 (s 31 r)) ≠ 0) 2 (zitp (zfz s r g) 3 (zitp (zriv s (s 31 r) (3 * s 3 (s 31 r) + g)) 4 (zitp (zroom s (s 3 (s 31 r)) g sh (zcn1 (zov s (s 31 r) (3 * s 3 (s 31 r) + g)))) (zmyF s (s 31 r)) 5))))
theorem zmyF_r {s : zS} {a : Int} (h : ∃ v, zmyV s a v) : 0 ≤ zmyF s a ∧ zmyF s a ≤ 7 := by
  obtain ⟨v, h⟩ := h
  rw [zmyF_e h]
  exact zmyV_r h
theorem zc65_52 {h : zH} {s : zS} (hC : zCl h s) (hW : zWf s) {a v g sh w : Int} (a0 : 0 ≤ a) (a1 : a < s 2 0) (av : s 3 a = v) (g0 : 0 ≤ g) (g1 : g < 3) (s0 : 0 ≤ sh) (s1 : sh ≤ 100) (hw : zrvI s a (3 * v + g) w) : zm65_52 (some (12, 0)) (zE g) (zE sh) (some (0, a.toNat)) (zrf 5 w) h = some (.inl (zE (zitp (zroom s v g sh (zcn1 (zov s a (3 * v + g)))) (zmyF s a) 5)), h) := by
  obtain ⟨cr, cs, cA, cP, cR, cZ, cT, cE, cV, cK, cG, cX, cM, cN⟩ := hC
  obtain ⟨wA, wK, wC, wD, wP, wR, wZ, wT, wG, wE, wM, wX⟩ := hW
  have z1 : ¬ zE 1 = zE 0 := by decide
  have ho : (w = -1 ∧ zcn1 (zov s a (3 * v + g)) = 0) ∨ ((0 ≤ w ∧ w < s 30 0) ∧ s 31 w = s 13 (3 * v + g) ∧ zcn1 (zov s a (3 * v + g)) = 1) := by
    rcases hw with ⟨h1, h2⟩ | ⟨h1, h2, h3⟩
    · exact Or.inl ⟨h1, zcn1_f h2⟩
    · exact Or.inr ⟨h1, h3.1, zcn1_t h2⟩
  obtain ⟨b, b1, b2⟩ := zc68 cr cA cR cV cK cX wA wK wR wZ a0 a1 av g0 g1 s0 s1 ho
  obtain ⟨u, u1, u2⟩ := zc45 cr cA cV wA wK wC wD a0 a1
  rw [zmyF_e u1]
  rcases b1 with ⟨rfl, b1⟩ | ⟨rfl, b1⟩
  · rw [zitp_t b1]
    simp (discharger := omega) only [zm65_52, ↓zo_12, b2, ↓zb_s, zE_0, zE_1, zE_2, zE_3, zE_4, zE_5, zE_6, zE_7, zE_8, zE_9, zE_10, zE_11, zE_12, zE_13, zE_14, zE_neg, z1, if_false, u2]
  · rw [zitp_f b1]
    simp (discharger := omega) only [zm65_52, ↓zo_12, b2, ↓zb_s, zE_0, zE_1, zE_2, zE_3, zE_4, zE_5, zE_6, zE_7, zE_8, zE_9, zE_10, zE_11, zE_12, zE_13, zE_14, zE_neg, if_true]
theorem zc65 {h : zH} {s : zS} (hC : zCl h s) (hW : zWf s) {r g sh : Int} (r0 : 0 ≤ r) (r1 : r < s 30 0) (g0 : 0 ≤ g) (g1 : g < 3) (s0 : 0 ≤ sh) (s1 : sh ≤ 100) : zm65 (some (12, 0)) (some (5, r.toNat)) (zE g) (zE sh) h = some (.inl (zE (zbr s r g sh)), h) := by
  have hC0 := hC
  have hW0 := hW
  obtain ⟨cr, cs, cA, cP, cR, cZ, cT, cE, cV, cK, cG, cX, cM, cN⟩ := hC
  obtain ⟨wA, wK, wC, wD, wP, wR, wZ, wT, wG, wE, wM, wX⟩ := hW
  have z1 : ¬ zE 1 = zE 0 := by decide
  have hn := wA.1
  have hw := (wR.2.2 r r0 r1).1
  unfold zbr
  obtain ⟨a, ha⟩ : ∃ a, a = s 31 r := ⟨_, rfl⟩
  rw [← ha] at hw ⊢
  have hA := wA.2 a hw.1 hw.2
  obtain ⟨v, hv⟩ : ∃ v, v = s 3 a := ⟨_, rfl⟩
  rw [← hv] at hA ⊢
  have v0 := hA.1.1
  have v1 := hA.1.2
  obtain ⟨q1, q2, q3, q4, q5, q6⟩ := wK (3 * v + g) (by omega) (by omega)
  have h50 := (wD.2.2 v v0 v1).2.2.2.2
  have eA : zr h 5 r.toNat 0 = some (0, a.toNat) := by rw [zCrA cR r0 r1, ha]
  have e1v : zi h 0 a.toNat 1 = zE v := by rw [zCa1 cA hw.1 hw.2, hv]
  have he : (zrf 0 (s 12 (3 * v + g)) = (some (0, a.toNat) : zq)) = (s 12 (3 * v + g) = a) := by
    rw [← zrf_s (k := 0) hw.1, zrf_i q1.1 (by omega)]
  have hgo : zm65 (some (12, 0)) (some (5, r.toNat)) (zE g) (zE sh) h = (if zrf 0 (s 12 (3 * v + g)) = (some (0, a.toNat) : zq) then some (.inl (0 : Int32), h) else
    zb (zm28 (some (10, (3 * v + g).toNat)) (some (0, a.toNat)) h) fun x63 h62 =>
    if x63 = 0 then
      if (zi h62 9 v.toNat 7) = 0 then
        zb (zm67 (some (12, 0)) (some (5, r.toNat)) (zE g) h62) fun x67 h66 =>
        if x67 = 0 then
          zb (zm66 (some (12, 0)) (some (0, a.toNat)) (some (10, (3 * v + g).toNat)) h66) fun x70 h69 =>
          if x70 = none then
            zm65_52 (some (12, 0)) (zE g) (zE sh) (some (0, a.toNat)) x70 h69
          else
            if (zi h69 0 a.toNat 8) = 0 then
              some (.inl (4 : Int32), h69)
            else
              zob 5 x70 fun p73 i74 =>
              zob 0 (zr h69 p73 i74 0) fun p77 i78 =>
              if (zi h69 p77 i78 8) = 0 then
                zm65_52 (some (12, 0)) (zE g) (zE sh) (some (0, a.toNat)) x70 h69
              else
                some (.inl (4 : Int32), h69)
        else
          some (.inl (3 : Int32), h66)
      else
        some (.inl (2 : Int32), h62)
    else
      some (.inl (0 : Int32), h62)) := by
    rw [zm65, zo_5, eA, zlet_s, zo_12, zo_0, e1v, zLVa cr cV v0 v1, zo_9, zLKa cV v0 v1 g0 g1, zo_10, zCk0 cK (by omega) (by omega)]
  rw [hgo]
  by_cases c1 : s 12 (3 * v + g) = a
  · rw [if_pos (he.mpr c1), zitp_t (Or.inl c1), zE_0]
  · rw [if_neg (fun z => c1 (he.mp z))]
    have e28 : zm28 (some (10, (3 * v + g).toNat)) (some (0, a.toNat)) h = some (.inl (zE (if a < s 12 (3 * v + g) then 1 else 0)), h) := by
      by_cases c2 : s 12 (3 * v + g) = -1
      · rw [if_neg (by omega)]
        simp (discharger := omega) only [zm28, ↓zo_10, zCk0 cK, c2, zrf_n, if_true, zE_0, zE_1, zE_2, zE_3, zE_4, zE_5, zE_6, zE_7, zE_8, zE_9, zE_10, zE_11, zE_12, zE_13, zE_14, zE_neg]
      · have n1 : ¬ zrf 0 (s 12 (3 * v + g)) = none := by rw [zrf_z q1.1]; exact c2
        have o0 : ∀ f : Nat → Nat → zRs Int32, zob 0 (zrf 0 (s 12 (3 * v + g))) f = f 0 (s 12 (3 * v + g)).toNat := fun f => zob_f rfl (by omega)
        by_cases c3 : a < s 12 (3 * v + g)
        · have c3' : ¬ s 12 (3 * v + g) ≤ a := by omega
          rw [if_pos c3]
          simp (discharger := omega) only [zm28, ↓zo_10, zCk0 cK, n1, if_false, ↓o0, ↓zo_0, zCa0 cA, zE_le, c3', zE_0, zE_1, zE_2, zE_3, zE_4, zE_5, zE_6, zE_7, zE_8, zE_9, zE_10, zE_11, zE_12, zE_13, zE_14, zE_neg]
        · have c3' : s 12 (3 * v + g) ≤ a := by omega
          rw [if_neg c3]
          simp (discharger := omega) only [zm28, ↓zo_10, zCk0 cK, n1, if_false, ↓o0, ↓zo_0, zCa0 cA, zE_le, c3', if_true, zE_0, zE_1, zE_2, zE_3, zE_4, zE_5, zE_6, zE_7, zE_8, zE_9, zE_10, zE_11, zE_12, zE_13, zE_14, zE_neg]
    rw [e28, zb_s]
    by_cases c3 : a < s 12 (3 * v + g)
    · rw [if_pos c3, zitp_t (Or.inr c3), if_neg (show ¬ zE 1 = (0 : Int32) by decide), zE_0]
    · rw [if_neg c3, zitp_f (fun z => z.elim c1 c3), if_pos zE_0.symm, zCv7 cV v0 v1]
      by_cases c4 : s 50 v = 0
      · rw [zitp_f (fun z => z c4), c4, if_pos zE_0.symm]
        obtain ⟨b, b1, b2⟩ := zc67 cr cs cA cR cZ wA wD wR wZ r0 r1 g0 g1
        rw [b2, zb_s]
        rcases b1 with ⟨rfl, b1⟩ | ⟨rfl, b1⟩
        · rw [zitp_t b1, if_neg (show ¬ zE 1 = (0 : Int32) by decide), zE_3]
        · rw [zitp_f b1, if_pos zE_0.symm]
          obtain ⟨w, w1, w2⟩ := zc66 (a := a) (k := 3 * v + g) cr cR cK wR wK hw.1 (by omega) (by omega)
          rw [w2, zb_s]
          have e52 := zc65_52 hC0 hW0 hw.1 hw.2 hv.symm g0 g1 s0 s1 w1
          rcases w1 with ⟨rfl, w1⟩ | ⟨w0, w1, w3⟩
          · rw [zrf_n, if_pos rfl, zitp_f (fun z => w1 z.1)]
            rw [zrf_n] at e52
            exact e52
          · have n1 : ¬ zrf 5 w = none := by rw [zrf_z (by omega)]; omega
            have hw2 := (wR.2.2 w w0.1 w0.2).1
            have h8 := hA.2.2.2.2.2.2.2.1
            have h8' := (wA.2 (s 31 w) hw2.1 hw2.2).2.2.2.2.2.2.2.1
            rw [if_neg n1, zCa8 cA hw.1 hw.2]
            by_cases c5 : s 10 a = 0
            · rw [c5, if_pos zE_0.symm, zitp_t ⟨w1, fun z => z.1 c5⟩, zE_4]
            · rw [if_neg (by rw [zE_0, zE_inj (by omega) (by omega) (by omega) (by omega)]; exact c5), zob_f rfl w0.1, zCrA cR w0.1 w0.2, zo_0, zCa8 cA hw2.1 hw2.2]
              by_cases c6 : s 10 (s 31 w) = 0
              · rw [c6, if_pos zE_0.symm, zitp_f (fun z => z.2 ⟨c5, by rw [← w3.1]; exact c6⟩)]
                exact e52
              · rw [if_neg (by rw [zE_0, zE_inj (by omega) (by omega) (by omega) (by omega)]; exact c6), zitp_t ⟨w1, fun z => c6 (by rw [w3.1]; exact z.2)⟩, zE_4]
      · rw [zitp_t c4, if_neg (by rw [zE_0, zE_inj (by omega) (by omega) (by omega) (by omega)]; exact c4), zE_2]
