set_option maxRecDepth 16384
/-! A stop goes back: the spots that the run touched. -/
theorem zup_id {s : zS} {j : Nat} {u v : Int} (e : s j u = v) : zup s j u v = s := by
  funext j' u'
  unfold zup
  by_cases c : j' = j ∧ u' = u
  · rw [if_pos c, c.1, c.2, e]
  · rw [if_neg c]
theorem zst_12 {s : zS} {k p : Int} : zstS' s k p (s 13 k) (s 14 k) = zup s 12 k p := by
  have e1 : zup (zup s 12 k p) 13 k (s 13 k) = zup s 12 k p := zup_id rfl
  have e2 : zup (zup s 12 k p) 14 k (s 14 k) = zup s 12 k p := zup_id rfl
  show zup (zup (zup s 12 k p) 13 k (s 13 k)) 14 k (s 14 k) = _
  rw [e1, e2]
/-- all but the spots' stables, candidates and shares are as in s -/
def zmw (s t : zS) : Prop := (∀ j, j ≠ 12 → j ≠ 13 → j ≠ 14 → t j = s j) ∧ zWk t
theorem zmw.A {s t : zS} (w : zmw s t) (hA : zWa s) : zWa t := by
  have e : ∀ j, j ≠ 12 ∧ j ≠ 13 ∧ j ≠ 14 → t j = s j := fun j z => w.1 j z.1 z.2.1 z.2.2
  unfold zWa at hA ⊢
  rw [e 2 (by decide), e 3 (by decide), e 4 (by decide), e 5 (by decide), e 6 (by decide), e 7 (by decide), e 8 (by decide), e 9 (by decide), e 10 (by decide), e 11 (by decide)]
  exact hA
theorem zmw.C {s t : zS} (w : zmw s t) (hA : zWc s) : zWc t := by
  have e : ∀ j, j ≠ 12 ∧ j ≠ 13 ∧ j ≠ 14 → t j = s j := fun j z => w.1 j z.1 z.2.1 z.2.2
  unfold zWc at hA ⊢
  rw [e 2 (by decide), e 3 (by decide), e 18 (by decide), e 19 (by decide)]
  exact hA
theorem zmw.D {s t : zS} (w : zmw s t) (hA : zWd s) : zWd t := by
  have e : ∀ j, j ≠ 12 ∧ j ≠ 13 ∧ j ≠ 14 → t j = s j := fun j z => w.1 j z.1 z.2.1 z.2.2
  unfold zWd at hA ⊢
  rw [e 1 (by decide), e 20 (by decide), e 21 (by decide), e 22 (by decide), e 23 (by decide), e 24 (by decide), e 50 (by decide)]
  exact hA
theorem zmw.R {s t : zS} (w : zmw s t) (hA : zWr s) : zWr t := by
  have e : ∀ j, j ≠ 12 ∧ j ≠ 13 ∧ j ≠ 14 → t j = s j := fun j z => w.1 j z.1 z.2.1 z.2.2
  unfold zWr at hA ⊢
  rw [e 1 (by decide), e 2 (by decide), e 3 (by decide), e 25 (by decide), e 26 (by decide), e 30 (by decide), e 31 (by decide), e 32 (by decide), e 33 (by decide), e 34 (by decide), e 35 (by decide), e 36 (by decide), e 37 (by decide), e 38 (by decide), e 39 (by decide), e 40 (by decide), e 41 (by decide), e 42 (by decide), e 58 (by decide)]
  exact hA
theorem zmw.st {s t : zS} (w : zmw s t) {k st cd sh : Int} (h : zWk (zstS' t k st cd sh)) : zmw s (zstS' t k st cd sh) := ⟨fun j a b c => by
  rw [← w.1 j a b c]
  funext u
  exact (zup_j c).trans ((zup_j b).trans (zup_j a)), h⟩
theorem zWf_mw {s t : zS} (hW : zWf s) (w : zmw s t) : zWf t := by
  obtain ⟨wA, wK, wC, wD, wP, wR, wZ, wT, wG, wE, wM, wX⟩ := hW
  have e : ∀ j, j ≠ 12 ∧ j ≠ 13 ∧ j ≠ 14 → t j = s j := fun j z => w.1 j z.1 z.2.1 z.2.2
  refine ⟨w.A wA, w.2, w.C wC, w.D wD, ?_, w.R wR, ?_, ?_, ?_, ?_, ?_, ?_⟩
  · unfold zWp at wP ⊢
    rw [e 25 (by decide), e 26 (by decide), e 27 (by decide), e 28 (by decide), e 29 (by decide)]
    exact wP
  · unfold zWz at wZ ⊢
    rw [e 51 (by decide), e 52 (by decide), e 53 (by decide), e 54 (by decide), e 55 (by decide), e 56 (by decide), e 57 (by decide)]
    exact wZ
  · unfold zWt at wT ⊢
    rw [e 58 (by decide), e 59 (by decide), e 60 (by decide)]
    exact wT
  · unfold zWg at wG ⊢
    rw [e 1 (by decide), e 61 (by decide), e 62 (by decide), e 63 (by decide), e 64 (by decide), e 65 (by decide), e 66 (by decide), e 67 (by decide), e 68 (by decide), e 69 (by decide), e 70 (by decide)]
    exact wG
  · unfold zWe at wE ⊢
    rw [e 71 (by decide), e 72 (by decide), e 73 (by decide), e 74 (by decide), e 75 (by decide), e 76 (by decide), e 77 (by decide)]
    exact wE
  · unfold zWm at wM ⊢
    rw [e 46 (by decide), e 47 (by decide), e 48 (by decide), e 49 (by decide)]
    exact wM
  · unfold zWx zac zWn zWq at wX ⊢
    rw [e 43 (by decide), e 44 (by decide), e 62 (by decide), e 25 (by decide), e 26 (by decide), e 30 (by decide), e 33 (by decide), e 34 (by decide), e 36 (by decide), e 37 (by decide), e 38 (by decide), e 41 (by decide), e 71 (by decide), e 77 (by decide), e 31 (by decide), e 18 (by decide), e 19 (by decide)]
    exact wX
/-- spot g of release r goes back, if it may -/
def zgbQ (t : zS) (r g : Int) : Prop := t 41 (3 * r + g) = 1 ∧ t 12 (3 * t 3 (t 31 r) + g) = t 31 r
noncomputable def zgbS (t : zS) (r g : Int) : zS := zup t 12 (3 * t 3 (t 31 r) + g) (zitp (zgbQ t r g ∧ zmr t (t 42 (3 * r + g)) (t 31 r) g) (t 42 (3 * r + g)) (t 12 (3 * t 3 (t 31 r) + g)))
noncomputable def zgb (s : zS) (r : Int) : Nat → zS
  | 0 => s
  | n + 1 => zgbS (zgb s r n) r n
noncomputable def zgc (s : zS) (r : Int) : Nat → Int
  | 0 => 0
  | n + 1 => zgc s r n + zcn1 (zgbQ (zgb s r n) r n ∧ ¬ zmr (zgb s r n) (zgb s r n 42 (3 * r + n)) (zgb s r n 31 r) n)
theorem zgc_r {s : zS} {r : Int} : ∀ n : Nat, 0 ≤ zgc s r n ∧ zgc s r n ≤ n
  | 0 => ⟨Int.le_refl _, Int.le_refl _⟩
  | n + 1 => by
    have := zgc_r (s := s) (r := r) n
    have := zcn1_r (zgbQ (zgb s r n) r n ∧ ¬ zmr (zgb s r n) (zgb s r n 42 (3 * r + n)) (zgb s r n 31 r) n)
    show 0 ≤ zgc s r n + _ ∧ zgc s r n + _ ≤ ((n + 1 : Nat) : Int)
    omega
theorem zgbS_w {s t : zS} {r g : Int} (w : zmw s t) (hA : zWa s) (hR : zWr s) (r0 : 0 ≤ r) (r1 : r < s 30 0) (g0 : 0 ≤ g) (g1 : g < 3) : zmw s (zgbS t r g) := by
  have hA := w.A hA
  have hR := w.R hR
  rw [← w.1 30 (by decide) (by decide) (by decide)] at r1
  obtain ⟨a1, -, -, -, -, -, -, -, -, -, q⟩ := hR.2.2 r r0 r1
  have hv := (hA.2 _ a1.1 a1.2).1
  have hk := w.2 (3 * t 3 (t 31 r) + g) (by omega) (by omega)
  unfold zgbS
  rw [← zst_12]
  by_cases c : zgbQ t r g ∧ zmr t (t 42 (3 * r + g)) (t 31 r) g
  · obtain ⟨p1, p2, -, p3⟩ := (q g g0 g1).2 c.1.1
    rw [zitp_t c]
    exact w.st (zWk_st w.2 ⟨p1, p2⟩ hk.2.1 hk.2.2.1 hk.2.2.2.1 (fun z => by have := p3 z; omega) hk.2.2.2.2.2)
  · rw [zitp_f c]
    exact w.st (zWk_st w.2 hk.1 hk.2.1 hk.2.2.1 hk.2.2.2.1 hk.2.2.2.2.1 hk.2.2.2.2.2)
theorem zgb_w {s t : zS} {r v : Int} (w : zmw s t) (hA : zWa s) (hR : zWr s) (r0 : 0 ≤ r) (r1 : r < s 30 0) (hv : s 3 (s 31 r) = v) : ∀ n : Nat, n ≤ 3 → zmw s (zgb t r n) ∧ zgb t r n 13 = t 13 ∧ zgb t r n 14 = t 14 ∧ ∀ u, ¬ (3 * v ≤ u ∧ u < 3 * v + n) → zgb t r n 12 u = t 12 u
  | 0, _ => ⟨w, rfl, rfl, fun _ _ => rfl⟩
  | n + 1, hn => by
    obtain ⟨p1, p2, p3, p4⟩ := zgb_w w hA hR r0 r1 hv n (by omega)
    refine ⟨zgbS_w p1 hA hR r0 r1 (by omega) (by omega), p2, p3, fun u hu => ?_⟩
    have e3 := p1.1 3 (by decide) (by decide) (by decide)
    have e31 := p1.1 31 (by decide) (by decide) (by decide)
    show zgbS (zgb t r n) r n 12 u = _
    unfold zgbS
    rw [e3, e31, hv, zup_a (by omega)]
    exact p4 u (by omega)
/-- the class -/
theorem zc57 {h : zH} {s0 t : zS} {r g a v p : Int} (hC : zClM h s0 t) (hA : zWa t) (hK : zWk t) (hS : zWc t) (hD : zWd t) (hR : zWr t) (r0 : 0 ≤ r) (r1 : r < t 30 0) (g0 : 0 ≤ g) (g1 : g < 3) (ea : t 31 r = a) (ev : t 3 a = v) (ep : t 42 (3 * r + g) = p) (tc : t 41 (3 * r + g) = 1) (e0 : t 12 (3 * v + g) = s0 12 (3 * v + g)) :
    ∃ b h', zbo b (¬ (zgbQ t r g ∧ ¬ zmr t p a g)) ∧ zm57 (some (12, 0)) (some (5, r.toNat)) (zE g) h = some (.inl (zE b), h') ∧ zClM h' s0 (zgbS t r g) ∧ zKp (fun k => ¬ zpc1 k) h h' ∧ zce h' = zce h ∧ zso h' = zso h := by
  have hC0 := hC
  obtain ⟨hC, hf⟩ := hC
  have cr : zCr h := hC.1
  have cA : zCA h t := hC.2.2.1
  have cR : zCR h t := hC.2.2.2.2.1
  have cV : zCV h t := hC.2.2.2.2.2.2.2.2.1
  have cK := hC.2.2.2.2.2.2.2.2.2.1
  have hn := hA.1
  obtain ⟨a1, -, -, -, -, -, -, -, -, -, q⟩ := hR.2.2 r r0 r1
  obtain ⟨p1, p2, p3, p4⟩ := (q g g0 g1).2 tc
  rw [ea] at a1 p3 p4
  rw [ep] at p1 p2 p3 p4
  have hv := (hA.2 a a1.1 a1.2).1
  rw [ev] at hv p4
  have hk := hK (3 * v + g) (by omega) (by omega)
  have q0 : zr h 10 (3 * v + g).toNat 0 = zrf 0 (t 12 (3 * v + g)) := by
    have := zCk0 cK (k := 3 * v + g) (by omega) (by omega)
    rwa [zmid_j (by decide)] at this
  have q1 : zr h 10 (3 * v + g).toNat 1 = zrf 0 (t 13 (3 * v + g)) := by
    have := zCk1 cK (k := 3 * v + g) (by omega) (by omega)
    rwa [zmid_j (by decide)] at this
  have q2 : zi h 10 (3 * v + g).toNat 2 = zE (t 14 (3 * v + g)) := by
    have := zCk2 cK (k := 3 * v + g) (by omega) (by omega)
    rwa [zmid_j (by decide)] at this
  have eA : zr h 5 r.toNat 0 = some (0, a.toNat) := by
    have := zCrA cR r0 r1
    rwa [ea] at this
  have eV : zi h 0 a.toNat 1 = zE v := by
    have := zCa1 cA a1.1 a1.2
    rwa [ev] at this
  have eU := zCa10 cA a1.1 a1.2
  have eP : zr h 26 r.toNat g.toNat = zrf 0 p := by
    have := zCrS1 cR r0 r1 g g0 g1 tc
    rwa [ep] at this
  have go : zm57 (some (12, 0)) (some (5, r.toNat)) (zE g) h = if zrf 0 (t 12 (3 * v + g)) = some (0, a.toNat) then (if zE (zus t a) = zE 1 then zm57_32 (some (12, 0)) (some (9, v.toNat)) (some (10, (3 * v + g).toNat)) (zrf 0 p) (some (0, a.toNat)) h else zm57_32 (some (12, 0)) (some (9, v.toNat)) (some (10, (3 * v + g).toNat)) (zrf 0 p) none h) else some (.inl (zE 1), h) := by
    rw [zm57, zo_5, zlet_s, zo_12, eA, zo_0, eV, zLVa cr cV hv.1 hv.2, zo_9, zLKa cV hv.1 hv.2 g0 g1, zo_10, q0, zra_s (zCr10_ cR r0 r1) rfl (zCrL1 cR r0 r1) g0 g1 (by omega) eP, eU, zE_1]
  have eq : zrf 0 (t 12 (3 * v + g)) = some (0, a.toNat) ↔ t 12 (3 * v + g) = a := by
    rw [← zrf_s (k := 0) a1.1, zrf_i hk.1.1 (by omega)]
  have eS : zgbS t r g = zup t 12 (3 * v + g) (zitp (zgbQ t r g ∧ zmr t p a g) p (t 12 (3 * v + g))) := by
    unfold zgbS
    rw [ea, ev, ep]
  have eQ : zgbQ t r g ↔ t 12 (3 * v + g) = a := by
    unfold zgbQ
    rw [ea, ev]
    exact ⟨fun z => z.2, fun z => ⟨tc, z⟩⟩
  have stay : ¬ (zgbQ t r g ∧ zmr t p a g) → zgbS t r g = t := fun z => by
    rw [eS, zitp_f z]
    exact zup_id rfl
  by_cases c : t 12 (3 * v + g) = a
  · rw [go, if_pos (eq.mpr c)]
    have hw : ∃ w, ((zus t a = 1 ∧ w = a) ∨ (zus t a ≠ 1 ∧ w = -1)) ∧ (if zE (zus t a) = zE 1 then zm57_32 (some (12, 0)) (some (9, v.toNat)) (some (10, (3 * v + g).toNat)) (zrf 0 p) (some (0, a.toNat)) h else zm57_32 (some (12, 0)) (some (9, v.toNat)) (some (10, (3 * v + g).toNat)) (zrf 0 p) none h) = zm57_32 (some (12, 0)) (some (9, v.toNat)) (some (10, (3 * v + g).toNat)) (zrf 0 p) (zrf 0 w) h := by
      have hu := zus_r t a
      have e1 : (zE (zus t a) = zE 1) = (zus t a = 1) := zE_inj (by omega) (by omega) (by omega) (by omega)
      by_cases d : zus t a = 1
      · exact ⟨a, Or.inl ⟨d, rfl⟩, by rw [if_pos (e1.mpr d), zrf_s a1.1]⟩
      · exact ⟨-1, Or.inr ⟨d, rfl⟩, by rw [if_neg (fun z => d (e1.mp z)), zrf_n]⟩
    obtain ⟨w, w1, w2⟩ := hw
    rw [w2]
    have no : ¬ zmr t p a g → zm57_32 (some (12, 0)) (some (9, v.toNat)) (some (10, (3 * v + g).toNat)) (zrf 0 p) (zrf 0 w) h = some (.inl (zE 0), h) → ∃ b h', zbo b (¬ (zgbQ t r g ∧ ¬ zmr t p a g)) ∧ zm57_32 (some (12, 0)) (some (9, v.toNat)) (some (10, (3 * v + g).toNat)) (zrf 0 p) (zrf 0 w) h = some (.inl (zE b), h') ∧ zClM h' s0 (zgbS t r g) ∧ zKp (fun k => ¬ zpc1 k) h h' ∧ zce h' = zce h ∧ zso h' = zso h := fun n1 n2 => ⟨0, h, zbo_0 (fun z => z ⟨eQ.mpr c, n1⟩), n2, by rw [stay (fun z => n1 z.2)]; exact hC0, zKp.rf, rfl, rfl⟩
    by_cases np : p = -1
    · refine no (fun z => z.1 np) ?_
      rw [zm57_32, if_pos (by rw [np, zrf_n]), zE_0]
    · have nz : ¬ zrf 0 p = none := by rw [zrf_z p1]; exact np
      have ps : zrf 0 p = some (0, p.toNat) := zrf_s (by omega)
      obtain ⟨f, f1, f2⟩ := zc46 cr cA hA hK hS (a := p) (w := w) (by omega) p2 (by rcases w1 with w1 | w1 <;> omega)
      have hm := zmr_e hA hK hS (p := p) (w := w) a1.1 a1.2 g0 g1 (by rw [ev]; exact c) w1
      rw [hm] at f1
      obtain ⟨d, d1, d2⟩ := zc25 cV cA hA hD (a := p) (v := v) (by omega) p2 (p4 np)
      have z1 : ¬ zE 1 = zE 0 := by decide
      rcases f1 with ⟨rfl, f1⟩ | ⟨rfl, f1⟩
      · rcases d1 with ⟨rfl, d1⟩ | ⟨rfl, d1⟩
        · have yes : zmr t p a g := ⟨np, d1, f1⟩
          obtain ⟨h', b1, b2, b3, b4, b5⟩ := zc29 (st := p) (cd := t 13 (3 * v + g)) (sh := t 14 (3 * v + g)) hC0 (by omega) (by omega) hk.1.1 hk.2.1.1 hk.2.2.1 p1 hk.2.1.1 hk.2.2.1 (fun _ => Or.inl (by rw [← e0, c]; exact p3)) (fun _ => Or.inl (by rw [← e0, c]; exact p3))
          refine ⟨1, h', zbo_1 (fun z => z.2 yes), ?_, ?_, b3, b4, b5⟩
          · rw [zm57_32, if_neg nz, ps, zo_12, f2, zb_s, zE_0, if_neg z1, zo_9, d2, zb_s, if_neg z1, zo_10, q1, q2, ← ps, b1, zb_s, zE_1]
          · rw [eS, zitp_t ⟨eQ.mpr c, yes⟩, ← zst_12]
            exact b2
        · refine no (fun z => d1 z.2.1) ?_
          rw [zm57_32, if_neg nz, ps, zo_12, f2, zb_s, zE_0, if_neg z1, zo_9, d2, zb_s, if_pos rfl]
      · refine no (fun z => f1 z.2.2) ?_
        rw [zm57_32, if_neg nz, ps, zo_12, f2, zb_s, zE_0, if_pos rfl]
  · refine ⟨1, h, zbo_1 (fun z => c (eQ.mp z.1)), ?_, ?_, zKp.rf, rfl, rfl⟩
    · rw [go, if_neg (fun z => c (eq.mp z))]
    · rw [stay (fun z => c (eQ.mp z.1))]
      exact hC0

