set_option maxRecDepth 16384
/-! release: both sides. -/
theorem zKp_w {P : Nat → Prop} {h : zH} {k n sl : Nat} (hk : ¬ P k) : zKp P h (znw h k n sl) := fun k' hp => by
  have e : k' ≠ k := fun z => hk (z ▸ hp)
  refine ⟨if_neg e, ?_, ?_, ?_, ?_, ?_⟩
  · funext i
    exact if_neg fun z => e z.1
  · funext i j
    exact if_neg fun z => e z.1
  · funext i j
    exact if_neg fun z => e z.1
  · funext i j
    exact if_neg fun z => e z.1
  · funext i j
    exact if_neg fun z => e z.1
theorem zKp_n {P : Nat → Prop} {h : zH} {k i n : Nat} (hk : ¬ P k) : zKp P h (zsn h k i n) := fun k' hp => by
  have e : k' ≠ k := fun z => hk (z ▸ hp)
  refine ⟨rfl, ?_, rfl, rfl, rfl, rfl⟩
  funext i
  exact if_neg fun z => e z.1
theorem znw_0r {h : zH} {k n sl j : Nat} : zr (znw h k n sl) k (zct h k) j = none := if_pos ⟨rfl, rfl⟩
def zrlA (h : zH) (p : Int) : zH := znw (zsi h 4 p.toNat 4 (zE 1)) 5 0 11
def zrlB (h : zH) (p : Int) : zH := zsr (znw (zsi (zrlA h p) 5 (zct h 5) 2 (zE 0)) 25 3 3) 5 (zct h 5) 9 (some (25, zct h 25))
def zrlD (h : zH) (p : Int) : zH := zsr (znw (zrlB h p) 26 3 3) 5 (zct h 5) 10 (some (26, zct h 26))
def zrlH (h : zH) (a p t : Int) : zH := zsi (zsr (zsr (zrlD h p) 5 (zct h 5) 0 (some (0, a.toNat))) 5 (zct h 5) 1 (some (4, p.toNat))) 5 (zct h 5) 4 (zE t)
def zrlS (s : zS) (a p : Int) : zS := zup (zup (zup (zup (zup s 31 (s 30 0) a) 32 (s 30 0) p) 35 (s 30 0) (s 1 0)) 40 (s 30 0) (-1)) 30 0 (s 30 0 + 1)
theorem zrlS_30 {s : zS} {a p : Int} : zrlS s a p 30 0 = s 30 0 + 1 := zup_s
theorem zrlS_n {s : zS} {a p : Int} : zrlS s a p 31 (s 30 0) = a ∧ zrlS s a p 32 (s 30 0) = p ∧ zrlS s a p 35 (s 30 0) = s 1 0 ∧ zrlS s a p 40 (s 30 0) = -1 :=
  ⟨(zup_j (by decide)).trans ((zup_j (by decide)).trans ((zup_j (by decide)).trans ((zup_j (by decide)).trans zup_s))), (zup_j (by decide)).trans ((zup_j (by decide)).trans ((zup_j (by decide)).trans zup_s)), (zup_j (by decide)).trans ((zup_j (by decide)).trans zup_s), (zup_j (by decide)).trans zup_s⟩
theorem zrlS_o {s : zS} {a p u : Int} (e : u ≠ s 30 0) : zrlS s a p 31 u = s 31 u ∧ zrlS s a p 32 u = s 32 u ∧ zrlS s a p 35 u = s 35 u ∧ zrlS s a p 40 u = s 40 u :=
  ⟨(zup_j (by decide)).trans ((zup_j (by decide)).trans ((zup_j (by decide)).trans ((zup_j (by decide)).trans (zup_a e)))), (zup_j (by decide)).trans ((zup_j (by decide)).trans ((zup_j (by decide)).trans ((zup_a e).trans (zup_j (by decide))))), (zup_j (by decide)).trans ((zup_j (by decide)).trans ((zup_a e).trans ((zup_j (by decide)).trans (zup_j (by decide))))), (zup_j (by decide)).trans ((zup_a e).trans ((zup_j (by decide)).trans ((zup_j (by decide)).trans (zup_j (by decide)))))⟩
theorem zrl_k {h : zH} {a p t : Int} (P : Nat → Prop) (p1 : ¬ P 4) (p2 : ¬ P 5) (p3 : ¬ P 25) (p4 : ¬ P 26) (p5 : ¬ P 16) : zKp P h (zadx (zrlH h a p t) 16 5 (zct h 5)) :=
  (((((((((((zKp_i p1).tr (zKp_w p2)).tr (zKp_i p2)).tr (zKp_w p3)).tr (zKp_r p2)).tr (zKp_w p4)).tr (zKp_r p2)).tr (zKp_r p2)).tr (zKp_r p2)).tr (zKp_i p2)).tr (zKp_r p5)).tr (zKp_n p5)
theorem zrlH_C {h : zH} {s : zS} {a p : Int} (hC : zCl h s) (hW : zWf s) (h20 : s 30 0 < 20) (a0 : 0 ≤ a) (a1 : a < s 2 0) (p0 : 0 ≤ p) (p1 : p < s 25 0) : zCl (zadx (zrlH h a p (s 1 0)) 16 5 (zct h 5)) (zrlS s a p) := by
  obtain ⟨wA, wK, wC, wD, wP, wR, wZ, wT, wG, wE, wM, wX⟩ := hW
  have hn := wR.1
  obtain ⟨c1, c2, c3, c4, c5, c6, c7, c8, c9, c10, c11, c12, c13, c14⟩ := hC
  obtain ⟨n1, n2, n3, n4, n5, n6, n7, n8, n9, n10, n11, n12, n13⟩ := c14
  obtain ⟨⟨t0, t1⟩, t2⟩ := c5
  refine ⟨c1, c2, c3, ⟨c4.1, fun u u0 u1 => ?_⟩, ⟨⟨t0, ?_⟩, fun u u0 u1 => ?_⟩, c6, c7, c8, c9, c10, c11, c12, zCM_w c13 (zrl_k _ (by decide) (by decide) (by decide) (by decide) (by decide)) rfl rfl rfl rfl, n1, n2, n3, n4, n5, n6, ?_, ?_, ?_, n10, n11, n12, n13⟩
  · obtain ⟨q0, q1, q2, q3, q4, q5, q6, q7, q8, q9, q10, q11⟩ := c4.2 u u0 u1
    refine ⟨q0, q1, q2, q3, q4, q5, q6, ?_, ?_, q9, q10, q11⟩
    · show zi (zsi h 4 p.toNat 4 (zE 1)) 4 u.toNat 3 = _
      exact (zi_j (by decide)).trans q7
    · show zi (zsi h 4 p.toNat 4 (zE 1)) 4 u.toNat 4 = zE (zcn1 (zxs 0 (zrlS s a p 30 0) fun r => zrlS s a p 32 r = u))
      rw [zrlS_30]
      by_cases e : u = p
      · subst e
        rw [zcn1_t ⟨s 30 0, hn.1, by omega, zrlS_n.2.1⟩]
        exact zi_s
      · rw [zi_i (by omega), q8]
        refine congrArg zE (zcn1_cg ?_)
        rw [zxs_s hn.1]
        constructor
        · rintro ⟨r, r0, r1, r2⟩
          exact Or.inl ⟨r, r0, r1, (zrlS_o (by omega)).2.1.trans r2⟩
        · rintro (⟨r, r0, r1, r2⟩ | r2)
          · exact ⟨r, r0, r1, (zrlS_o (a := a) (p := p) (by omega)).2.1.symm.trans r2⟩
          · rw [zrlS_n.2.1] at r2
            omega
  · rw [zrlS_30]
    have : zln (zadx (zrlH h a p (s 1 0)) 16 5 (zct h 5)) 16 0 = zln h 16 0 + 1 := zln_s (h := zsr (zrlH h a p (s 1 0)) 16 0 (zln h 16 0) (some (5, zct h 5)))
    omega
  · rw [zrlS_30] at u1
    by_cases e : u = s 30 0
    · have eu : u.toNat = zct h 5 := by omega
      have el : u.toNat = zln h 16 0 := by omega
      have e25 : u.toNat = zct h 25 := by omega
      have e26 : u.toNat = zct h 26 := by omega
      obtain ⟨f1, f2, f3, f4⟩ := zrlS_n (s := s) (a := a) (p := p)
      obtain ⟨g1, g2, g3, g4, g5, g6⟩ := wX.2.2.2.2.2.1 u (by omega) (by omega)
      rw [← e] at f1 f2 f3 f4
      have g1 : zrlS s a p 33 u = 0 := g1
      have g2 : zrlS s a p 34 u = 0 := g2
      have g3 : zrlS s a p 36 u = 0 := g3
      have g4 : zrlS s a p 37 u = 0 := g4
      have g5 : zrlS s a p 38 u = 0 := g5
      have g6 : ∀ g, 0 ≤ g → g < 3 → zrlS s a p 41 (3 * u + g) = 0 := g6
      rw [f1, f2, f3, f4, g1, g2, g3, g4, g5]
      have hz : ∀ j, j ≠ 2 → j ≠ 4 → zi (zrlH h a p (s 1 0)) 5 u.toNat j = 0 := fun j j2 j4 => by
        rw [eu]
        refine (zi_j j4).trans ?_
        show zi (zsi (zrlA h p) 5 (zct h 5) 2 (zE 0)) 5 (zct h 5) j = 0
        exact (zi_j j2).trans (znw_0 (h := zsi h 4 p.toNat 4 (zE 1)) (k := 5) (n := 0) (sl := 11))
      refine ⟨?_, ?_, ?_, ?_, (hz 3 (by decide) (by decide)).trans zE_0, ?_, (hz 5 (by decide) (by decide)).trans zE_0, (hz 6 (by decide) (by decide)).trans zE_0, (hz 8 (by decide) (by decide)).trans zE_0, ?_, ?_, ?_, ?_, ?_, fun g g0 g1 => ?_, fun g g0 g1 z => ?_⟩
      · show zr (zsr (zrlH h a p (s 1 0)) 16 0 (zln h 16 0) (some (5, zct h 5))) 16 0 u.toNat = _
        rw [el, zr_s, ← el, eu]
      · show zr (zsr (zsr (zrlD h p) 5 (zct h 5) 0 (some (0, a.toNat))) 5 (zct h 5) 1 (some (4, p.toNat))) 5 u.toNat 0 = _
        rw [eu]
        exact (zr_j (by decide)).trans zr_s
      · show zr (zsr (zsr (zrlD h p) 5 (zct h 5) 0 (some (0, a.toNat))) 5 (zct h 5) 1 (some (4, p.toNat))) 5 u.toNat 1 = _
        rw [eu]
        exact zr_s
      · show zi (zrlH h a p (s 1 0)) 5 u.toNat 2 = _
        rw [eu]
        refine (zi_j (by decide)).trans ?_
        show zi (zsi (zrlA h p) 5 (zct h 5) 2 (zE 0)) 5 (zct h 5) 2 = _
        exact zi_s
      · show zi (zrlH h a p (s 1 0)) 5 u.toNat 4 = _
        rw [eu]
        exact zi_s
      · show zr (zsr (zsr (zrlD h p) 5 (zct h 5) 0 (some (0, a.toNat))) 5 (zct h 5) 1 (some (4, p.toNat))) 5 u.toNat 7 = _
        rw [eu]
        refine (zr_j (by decide)).trans ((zr_j (by decide)).trans ((zr_j (by decide)).trans ?_))
        show zr (zrlB h p) 5 (zct h 5) 7 = _
        refine (zr_j (by decide)).trans ?_
        show zr (zrlA h p) 5 (zct h 5) 7 = _
        exact znw_0r (h := zsi h 4 p.toNat 4 (zE 1)) (k := 5) (n := 0) (sl := 11)
      · show zr (zsr (zsr (zrlD h p) 5 (zct h 5) 0 (some (0, a.toNat))) 5 (zct h 5) 1 (some (4, p.toNat))) 5 u.toNat 9 = _
        rw [eu]
        refine (zr_j (by decide)).trans ((zr_j (by decide)).trans ((zr_j (by decide)).trans ?_))
        show zr (zrlB h p) 5 (zct h 5) 9 = _
        rw [← eu, e25, ← e25, eu]
        exact zr_s.trans (by rw [← e25, eu])
      · show zr (zsr (zsr (zrlD h p) 5 (zct h 5) 0 (some (0, a.toNat))) 5 (zct h 5) 1 (some (4, p.toNat))) 5 u.toNat 10 = _
        rw [eu]
        refine (zr_j (by decide)).trans ((zr_j (by decide)).trans ?_)
        exact zr_s.trans (by rw [← e26, eu])
      · rw [e25]
        exact zln_n (h := zsi (zrlA h p) 5 (zct h 5) 2 (zE 0)) (k := 25) (n := 3) (sl := 3)
      · rw [e26]
        exact zln_n (h := zrlB h p) (k := 26) (n := 3) (sl := 3)
      · rw [g6 g g0 g1, e25]
        exact (znw_0 (h := zsi (zrlA h p) 5 (zct h 5) 2 (zE 0)) (k := 25) (n := 3) (sl := 3)).trans zE_0
      · rw [g6 g g0 g1] at z
        omega
    · obtain ⟨q0, q1, q2, q3, q4, q5, q6, q7, q8, q9, q10, q11, q12, q13, q14, q15⟩ := t2 u u0 (by omega)
      have eu : u.toNat ≠ zct h 5 := by omega
      have el : u.toNat ≠ zln h 16 0 := by omega
      have e25 : u.toNat ≠ zct h 25 := by omega
      have e26 : u.toNat ≠ zct h 26 := by omega
      obtain ⟨f1, f2, f3, f4⟩ := zrlS_o (s := s) (a := a) (p := p) e
      rw [f1, f2, f3, f4]
      have hz : ∀ j, zi (zrlH h a p (s 1 0)) 5 u.toNat j = zi h 5 u.toNat j := fun j => by
        refine (zi_i eu).trans ?_
        show zi (zsi (zrlA h p) 5 (zct h 5) 2 (zE 0)) 5 u.toNat j = _
        exact (zi_i eu).trans (znw_i (h := zsi h 4 p.toNat 4 (zE 1)) (n := 0) (sl := 11) eu)
      have hy : ∀ j, zr (zrlH h a p (s 1 0)) 5 u.toNat j = zr h 5 u.toNat j := fun j => by
        show zr (zsr (zsr (zrlD h p) 5 (zct h 5) 0 (some (0, a.toNat))) 5 (zct h 5) 1 (some (4, p.toNat))) 5 u.toNat j = _
        refine (zr_i eu).trans ((zr_i eu).trans ((zr_i eu).trans ?_))
        show zr (zrlB h p) 5 u.toNat j = _
        refine (zr_i eu).trans ?_
        show zr (zrlA h p) 5 u.toNat j = _
        exact znw_r (h := zsi h 4 p.toNat 4 (zE 1)) (n := 0) (sl := 11) eu
      refine ⟨?_, (hy 0).trans q1, (hy 1).trans q2, (hz 2).trans q3, (hz 3).trans q4, (hz 4).trans q5, (hz 5).trans q6, (hz 6).trans q7, (hz 8).trans q8, (hy 7).trans q9, (hy 9).trans q10, (hy 10).trans q11, ?_, ?_, fun g g0 g1 => ?_, fun g g0 g1 z => ?_⟩
      · show zr (zsr (zrlH h a p (s 1 0)) 16 0 (zln h 16 0) (some (5, zct h 5))) 16 0 u.toNat = _
        rw [zr_j el]
        exact q0
      · exact (zln_o (h := zsi (zrlA h p) 5 (zct h 5) 2 (zE 0)) (n := 3) (sl := 3) e25).trans q12
      · exact (zln_o (h := zrlB h p) (n := 3) (sl := 3) e26).trans q13
      · exact (znw_i (h := zsi (zrlA h p) 5 (zct h 5) 2 (zE 0)) (n := 3) (sl := 3) e25).trans (q14 g g0 g1)
      · exact (znw_r (h := zrlB h p) (n := 3) (sl := 3) e26).trans (q15 g g0 g1 z)
  · rw [zrlS_30]
    have : zct (zadx (zrlH h a p (s 1 0)) 16 5 (zct h 5)) 5 = zct h 5 + 1 := zct_n (h := zsi h 4 p.toNat 4 (zE 1)) (k := 5) (n := 0) (sl := 11)
    omega
  · rw [zrlS_30]
    have : zct (zadx (zrlH h a p (s 1 0)) 16 5 (zct h 5)) 25 = zct h 25 + 1 := zct_n (h := zsi (zrlA h p) 5 (zct h 5) 2 (zE 0)) (k := 25) (n := 3) (sl := 3)
    omega
  · rw [zrlS_30]
    have : zct (zadx (zrlH h a p (s 1 0)) 16 5 (zct h 5)) 26 = zct h 26 + 1 := zct_n (h := zrlB h p) (k := 26) (n := 3) (sl := 3)
    omega
theorem zrlS_W {s : zS} {a p : Int} (hW : zWf s) (h20 : s 30 0 < 20) (a0 : 0 ≤ a) (a1 : a < s 2 0) (p0 : 0 ≤ p) (p1 : p < s 25 0) (p2 : s 26 p ≠ 0) (hx : ¬ zxs 0 (s 30 0) (zrlP s a)) : zWf (zrlS s a p) := by
  obtain ⟨wA, wK, wC, wD, wP, wR, wZ, wT, wG, wE, wM, wX⟩ := hW
  have hn := wR.1
  have h26 := wP.2.1 p p0 p1
  have hd := wD.1
  have ht := wT.1
  obtain ⟨g1, g2, g3, g4, g5, g6⟩ := wX.2.2.2.2.2.1 (s 30 0) (by omega) (by omega)
  obtain ⟨f1, f2, f3, f4⟩ := zrlS_n (s := s) (a := a) (p := p)
  refine ⟨wA, wK, wC, wD, wP, ⟨?_, wR.2.1, fun u u0 u1 => ?_⟩, wZ, wT, wG, wE, wM, wX.1, wX.2.1, wX.2.2.1, wX.2.2.2.1, wX.2.2.2.2.1, fun u u0 u1 => ?_, wX.2.2.2.2.2.2.1, fun u u' u0 u1 u2 u3 => ?_, wX.2.2.2.2.2.2.2.2⟩
  · rw [zrlS_30]; omega
  · rw [zrlS_30] at u1
    show (0 ≤ zrlS s a p 31 u ∧ zrlS s a p 31 u < s 2 0) ∧ (0 ≤ zrlS s a p 32 u ∧ zrlS s a p 32 u < s 25 0) ∧ (0 ≤ s 33 u ∧ s 33 u ≤ 4) ∧ (0 ≤ s 34 u ∧ s 34 u ≤ s 26 (zrlS s a p 32 u)) ∧ (s 33 u ≤ 1 → s 34 u < s 26 (zrlS s a p 32 u)) ∧ (0 ≤ zrlS s a p 35 u ∧ zrlS s a p 35 u ≤ s 1 0) ∧ (0 ≤ s 36 u ∧ s 36 u ≤ 63) ∧ (0 ≤ s 37 u ∧ s 37 u ≤ 1) ∧ (0 ≤ s 38 u ∧ s 38 u ≤ 1) ∧ (-1 ≤ zrlS s a p 40 u ∧ zrlS s a p 40 u < s 58 0) ∧ ∀ g, 0 ≤ g → g < 3 → (0 ≤ s 41 (3 * u + g) ∧ s 41 (3 * u + g) ≤ 1) ∧ (s 41 (3 * u + g) = 1 → -1 ≤ s 42 (3 * u + g) ∧ s 42 (3 * u + g) < s 2 0 ∧ s 42 (3 * u + g) ≠ zrlS s a p 31 u ∧ (s 42 (3 * u + g) ≠ -1 → s 3 (s 42 (3 * u + g)) = s 3 (zrlS s a p 31 u)))
    by_cases e : u = s 30 0
    · subst e
      rw [f1, f2, f3, f4, g1, g2, g3, g4, g5]
      refine ⟨by omega, by omega, by omega, by omega, by omega, by omega, by omega, by omega, by omega, by omega, fun g g0 g1 => ?_⟩
      rw [g6 g g0 g1]
      exact ⟨by omega, fun z => by omega⟩
    · obtain ⟨f1, f2, f3, f4⟩ := zrlS_o (s := s) (a := a) (p := p) e
      rw [f1, f2, f3, f4]
      exact wR.2.2 u u0 (by omega)
  · rw [zrlS_30] at u0
    exact wX.2.2.2.2.2.1 u (by omega) u1
  · rw [zrlS_30] at u2
    show 1 < s 33 u ∨ 1 < s 33 u'
    rw [(zrlS_o (s := s) (a := a) (p := p) (u := u) (by omega)).1] at u3
    by_cases e : u' = s 30 0
    · subst e
      rw [f1] at u3
      exact Or.inl (Classical.not_not.mp fun z => hx ⟨u, u0, by omega, u3, z⟩)
    · rw [(zrlS_o (s := s) (a := a) (p := p) (u := u') e).1] at u3
      exact wX.2.2.2.2.2.2.2.1 u u' u0 u1 (by omega) u3
