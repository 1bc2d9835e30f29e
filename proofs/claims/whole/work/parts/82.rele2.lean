set_option maxRecDepth 16384
/-! release: both sides. -/
theorem zKp_w {P : Nat → Prop} {h : zH} {k n sl : Nat} (hk : ¬ P k) : zKp P h (znw h k n sl) := fun k' hp => by
  have e : k' ≠ k := fun z => hk (z ▸ hp)
  refine ⟨if_neg e, ?_, ?_, ?_, ?_, ?_⟩
  · funext i
    exact if_neg fun z => e z.1
  · funext i j
    exact if_neg fun z => e z.1
  · funext i j
    exact if_neg fun z => e z.1
  · funext i j
    exact if_neg fun z => e z.1
  · funext i j
    exact if_neg fun z => e z.1
theorem zKp_n {P : Nat → Prop} {h : zH} {k i n : Nat} (hk : ¬ P k) : zKp P h (zsn h k i n) := fun k' hp => by
  have e : k' ≠ k := fun z => hk (z ▸ hp)
  refine ⟨rfl, ?_, rfl, rfl, rfl, rfl⟩
  funext i
  exact if_neg fun z => e z.1
theorem znw_0r {h : zH} {k n sl j : Nat} : zr (znw h k n sl) k (zct h k) j = none := if_pos ⟨rfl, rfl⟩
def zrlA (h : zH) (p : Int) : zH := znw (zsi h 4 p.toNat 4 (zE 1)) 5 0 11
def zrlB (h : zH) (p : Int) : zH := zsr (znw (zsi (zrlA h p) 5 (zct h 5) 2 (zE 0)) 25 3 3) 5 (zct h 5) 9 (some (25, zct h 25))
def zrlD (h : zH) (p : Int) : zH := zsr (znw (zrlB h p) 26 3 3) 5 (zct h 5) 10 (some (26, zct h 26))
def zrlH (h : zH) (a p t : Int) : zH := zsi (zsr (zsr (zrlD h p) 5 (zct h 5) 0 (some (0, a.toNat))) 5 (zct h 5) 1 (some (4, p.toNat))) 5 (zct h 5) 4 (zE t)
def zrlS (s : zS) (a p : Int) : zS := zup (zup (zup (zup (zup s 31 (s 30 0) a) 32 (s 30 0) p) 35 (s 30 0) (s 1 0)) 40 (s 30 0) (-1)) 30 0 (s 30 0 + 1)
theorem zrlS_30 {s : zS} {a p : Int} : zrlS s a p 30 0 = s 30 0 + 1 := zup_s
theorem zrlS_n {s : zS} {a p : Int} : zrlS s a p 31 (s 30 0) = a ∧ zrlS s a p 32 (s 30 0) = p ∧ zrlS s a p 35 (s 30 0) = s 1 0 ∧ zrlS s a p 40 (s 30 0) = -1 :=
  ⟨(zup_j (by decide)).trans ((zup_j (by decide)).trans ((zup_j (by decide)).trans ((zup_j (by decide)).trans zup_s))), (zup_j (by decide)).trans ((zup_j (by decide)).trans ((zup_j (by decide)).trans zup_s)), (zup_j (by decide)).trans ((zup_j (by decide)).trans zup_s), (zup_j (by decide)).trans zup_s⟩
theorem zrlS_o {s : zS} {a p u : Int} (e : u ≠ s 30 0) : zrlS s a p 31 u = s 31 u ∧ zrlS s a p 32 u = s 32 u ∧ zrlS s a p 35 u = s 35 u ∧ zrlS s a p 40 u = s 40 u :=
  ⟨(zup_j (by decide)).trans ((zup_j (by decide)).trans ((zup_j (by decide)).trans ((zup_j (by decide)).trans (zup_a e)))), (zup_j (by decide)).trans ((zup_j (by decide)).trans ((zup_j (by decide)).trans ((zup_a e).trans (zup_j (by decide))))), (zup_j (by decide)).trans ((zup_j (by decide)).trans ((zup_a e).trans ((zup_j (by decide)).trans (zup_j (by decide))))), (zup_j (by decide)).trans ((zup_a e).trans ((zup_j (by decide)).trans ((zup_j (by decide)).trans (zup_j (by decide)))))⟩
theorem zrl_k {h : zH} {a p t : Int} (P : Nat → Prop) (p1 : ¬ P 4) (p2 : ¬ P 5) (p3 : ¬ P 25) (p4 : ¬ P 26) (p5 : ¬ P 16) : zKp P h (zadx (zrlH h a p t) 16 5 (zct h 5)) :=
  (((((((((((zKp_i p1).tr (zKp_w p2)).tr (zKp_i p2)).tr (zKp_w p3)).tr (zKp_r p2)).tr (zKp_w p4)).tr (zKp_r p2)).tr (zKp_r p2)).tr (zKp_r p2)).tr (zKp_i p2)).tr (zKp_r p5)).tr (zKp_n p5)
theorem zrlH_C {h : zH} {s : zS} {a p : Int} (hC : zCl h s) (hW : zWf s) (h20 : s 30 0 < 20) (a0 : 0 ≤ a) (a1 : a < s 2 0) (p0 : 0 ≤ p) (p1 : p < s 25 0) : zCl (zadx (zrlH h a p (s 1 0)) 16 5 (zct h 5)) (zrlS s a p) := by
  obtain ⟨wA, wK, wC, wD, wP, wR, wZ, wT, wG, wE, wM, wX⟩ := hW
  have hn := wR.1
  obtain ⟨c1, c2, c3, c4, c5, c6, c7, c8, c9, c10, c11, c12, c13, c14⟩ := hC
  obtain ⟨n1, n2, n3, n4, n5, n6, n7, n8, n9, n10, n11, n12, n13⟩ := c14
  obtain ⟨⟨t0, t1⟩, t2⟩ := c5
  refine ⟨c1, c2, c3, ⟨c4.1, fun u u0 u1 => ?_⟩, ⟨⟨t0, ?_⟩, fun u u0 u1 => ?_⟩, c6, c7, c8, c9, c10, c11, c12, zCM_w c13 (zrl_k _ (by decide) (by decide) (by decide) (by decide) (by decide)) rfl rfl rfl rfl, n1, n2, n3, n4, n5, n6, ?_, ?_, ?_, n10, n11, n12, n13⟩
  · obtain ⟨q0, q1, q2, q3, q4, q5, q6, q7, q8, q9, q10, q11⟩ := c4.2 u u0 u1
    refine ⟨q0, q1, q2, q3, q4, q5, q6, ?_, ?_, q9, q10, q11⟩
    · show zi (zsi h 4 p.toNat 4 (zE 1)) 4 u.toNat 3 = _
      exact (zi_j (by decide)).trans q7
    · show zi (zsi h 4 p.toNat 4 (zE 1)) 4 u.toNat 4 = zE (zcn1 (zxs 0 (zrlS s a p 30 0) fun r => zrlS s a p 32 r = u))
      rw [zrlS_30]
      by_cases e : u = p
      · subst e
        rw [zcn1_t ⟨s 30 0, hn.1, by omega, zrlS_n.2.1⟩]
        exact zi_s
      · rw [zi_i (by omega), q8]
        refine congrArg zE (zcn1_cg ?_)
        rw [zxs_s hn.1]
        constructor
        · rintro ⟨r, r0, r1, r2⟩
          exact Or.inl ⟨r, r0, r1, (zrlS_o (by omega)).2.1.trans r2⟩
        · rintro (⟨r, r0, r1, r2⟩ | r2)
          · exact ⟨r, r0, r1, (zrlS_o (a := a) (p := p) (by omega)).2.1.symm.trans r2⟩
          · rw [zrlS_n.2.1] at r2
            omega
  · rw [zrlS_30]
    have : zln (zadx (zrlH h a p (s 1 0)) 16 5 (zct h 5)) 16 0 = zln h 16 0 + 1 := zln_s (h := zsr (zrlH h a p (s 1 0)) 16 0 (zln h 16 0) (some (5, zct h 5)))
    omega
  · rw [zrlS_30] at u1
    by_cases e : u = s 30 0
    · have eu : u.toNat = zct h 5 := by omega
      have el : u.toNat = zln h 16 0 := by omega
      have e25 : u.toNat = zct h 25 := by omega
      have e26 : u.toNat = zct h 26 := by omega
      obtain ⟨f1, f2, f3, f4⟩ := zrlS_n (s := s) (a := a) (p := p)
      obtain ⟨g1, g2, g3, g4, g5, g6⟩ := wX.2.2.2.2.2.1 u (by omega) (by omega)
      rw [← e] at f1 f2 f3 f4
      have g1 : zrlS s a p 33 u = 0 := g1
      have g2 : zrlS s a p 34 u = 0 := g2
      have g3 : zrlS s a p 36 u = 0 := g3
      have g4 : zrlS s a p 37 u = 0 := g4
      have g5 : zrlS s a p 38 u = 0 := g5
      have g6 : ∀ g, 0 ≤ g → g < 3 → zrlS s a p 41 (3 * u + g) = 0 := g6
      rw [f1, f2, f3, f4, g1, g2, g3, g4, g5]
      have hz : ∀ j, j ≠ 2 → j ≠ 4 → zi (zrlH h a p (s 1 0)) 5 u.toNat j = 0 := fun j j2 j4 => by
        rw [eu]
        refine (zi_j j4).trans ?_
        show zi (zsi (zrlA h p) 5 (zct h 5) 2 (zE 0)) 5 (zct h 5) j = 0
        exact (zi_j j2).trans (znw_0 (h := zsi h 4 p.toNat 4 (zE 1)) (k := 5) (n := 0) (sl := 11))
      refine ⟨?_, ?_, ?_, ?_, (hz 3 (by decide) (by decide)).trans zE_0, ?_, (hz 5 (by decide) (by decide)).trans zE_0, (hz 6 (by decide) (by decide)).trans zE_0, (hz 8 (by decide) (by decide)).trans zE_0, ?_, ?_, ?_, ?_, ?_, fun g g0 g1 => ?_, fun g g0 g1 z => ?_⟩
      · show zr (zsr (zrlH h a p (s 1 0)) 16 0 (zln h 16 0) (some (5, zct h 5))) 16 0 u.toNat = _
        rw [el, zr_s, ← el, eu]
      · show zr (zsr (zsr (zrlD h p) 5 (zct h 5) 0 (some (0, a.toNat))) 5 (zct h 5) 1 (some (4, p.toNat))) 5 u.toNat 0 = _
        rw [eu]
        exact (zr_j (by decide)).trans zr_s
      · show zr (zsr (zsr (zrlD h p) 5 (zct h 5) 0 (some (0, a.toNat))) 5 (zct h 5) 1 (some (4, p.toNat))) 5 u.toNat 1 = _
        rw [eu]
        exact zr_s
      · show zi (zrlH h a p (s 1 0)) 5 u.toNat 2 = _
        rw [eu]
        refine (zi_j (by decide)).trans ?_
        show zi (zsi (zrlA h p) 5 (zct h 5) 2 (zE 0)) 5 (zct h 5) 2 = _
        exact zi_s
      · show zi (zrlH h a p (s 1 0)) 5 u.toNat 4 = _
        rw [eu]
        exact zi_s
      · show zr (zsr (zsr (zrlD h p) 5 (zct h 5) 0 (some (0, a.toNat))) 5 (zct h 5) 1 (some (4, p.toNat))) 5 u.toNat 7 = _
        rw [eu]
        refine (zr_j (by decide)).trans ((zr_j (by decide)).trans ((zr_j (by decide)).trans ?_))
        show zr (zrlB h p) 5 (zct h 5) 7 = _
        refine (zr_j (by decide)).trans ?_
        show zr (zrlA h p) 5 (zct h 5) 7 = _
        exact znw_0r (h := zsi h 4 p.toNat 4 (zE 1)) (k := 5) (n := 0) (sl := 11)
      · show zr (zsr (zsr (zrlD h p) 5 (zct h 5) 0 (some (0, a.toNat))) 5 (zct h 5) 1 (some (4, p.toNat))) 5 u.toNat 9 = _
        rw [eu]
        refine (zr_j (by decide)).trans ((zr_j (by decide)).trans ((zr_j (by decide)).trans ?_))
        show zr (zrlB h p) 5 (zct h 5) 9 = _
        rw [← eu, e25, ← e25, eu]
        exact zr_s.trans (by rw [← e25, eu])
      · show zr (zsr (zsr (zrlD h p) 5 (zct h 5) 0 (some (0, a.toNat))) 5 (zct h 5) 1 (some (4, p.toNat))) 5 u.toNat 10 = _
        rw [eu]
        refine (zr_j (by decide)).trans ((zr_j (by decide)).trans ?_)
        exact zr_s.trans (by rw [← e26, eu])
      · rw [e25]
        exact zln_n (h := zsi (zrlA h p) 5 (zct h 5) 2 (zE 0)) (k := 25) (n := 3) (sl := 3)
      · rw [e26]
        exact zln_n (h := zrlB h p) (k := 26) (n := 3) (sl := 3)
      · rw [g6 g g0 g1, e25]
        exact (znw_0 (h := zsi (zrlA h p) 5 (zct h 5) 2 (zE 0)) (k := 25) (n := 3) (sl := 3)).trans zE_0
      · rw [g6 g g0 g1] at z
        omega
    · obtain ⟨q0, q1, q2, q3, q4, q5, q6, q7, q8, q9, q10, q11, q12, q13, q14, q15⟩ := t2 u u0 (by omega)
      have eu : u.toNat ≠ zct h 5 := by omega
      have el : u.toNat ≠ zln h 16 0 := by omega
      have e25 : u.toNat ≠ zct h 25 := by omega
      have e26 : u.toNat ≠ zct h 26 := by omega
      obtain ⟨f1, f2, f3, f4⟩ := zrlS_o (s := s) (a := a) (p := p) e
      rw [f1, f2, f3, f4]
      have hz : ∀ j, zi (zrlH h a p (s 1 0)) 5 u.toNat j = zi h 5 u.toNat j := fun j => by
        refine (zi_i eu).trans ?_
        show zi (zsi (zrlA h p) 5 (zct h 5) 2 (zE 0)) 5 u.toNat j = _
        exact (zi_i eu).trans (znw_i (h := zsi h 4 p.toNat 4 (zE 1)) (n := 0) (sl := 11) eu)
      have hy : ∀ j, zr (zrlH h a p (s 1 0)) 5 u.toNat j = zr h 5 u.toNat j := fun j => by
        show zr (zsr (zsr (zrlD h p) 5 (zct h 5) 0 (some (0, a.toNat))) 5 (zct h 5) 1 (some (4, p.toNat))) 5 u.toNat j = _
        refine (zr_i eu).trans ((zr_i eu).trans ((zr_i eu).trans ?_))
        show zr (zrlB h p) 5 u.toNat j = _
        refine (zr_i eu).trans ?_
        show zr (zrlA h p) 5 u.toNat j = _
        exact znw_r (h := zsi h 4 p.toNat 4 (zE 1)) (n := 0) (sl := 11) eu
      refine ⟨?_, (hy 0).trans q1, (hy 1).trans q2, (hz 2).trans q3, (hz 3).trans q4, (hz 4).trans q5, (hz 5).trans q6, (hz 6).trans q7, (hz 8).trans q8, (hy 7).trans q9, (hy 9).trans q10, (hy 10).trans q11, ?_, ?_, fun g g0 g1 => ?_, fun g g0 g1 z => ?_⟩
      · show zr (zsr (zrlH h a p (s 1 0)) 16 0 (zln h 16 0) (some (5, zct h 5))) 16 0 u.toNat = _
        rw [zr_j el]
        exact q0
      · exact (zln_o (h := zsi (zrlA h p) 5 (zct h 5) 2 (zE 0)) (n := 3) (sl := 3) e25).trans q12
      · exact (zln_o (h := zrlB h p) (n := 3) (sl := 3) e26).trans q13
      · exact (znw_i (h := zsi (zrlA h p) 5 (zct h 5) 2 (zE 0)) (n := 3) (sl := 3) e25).trans (q14 g g0 g1)
      · exact (znw_r (h := zrlB h p) (n := 3) (sl := 3) e26).trans (q15 g g0 g1 z)
  · rw [zrlS_30]
    have : zct (zadx (zrlH h a p (s 1 0)) 16 5 (zct h 5)) 5 = zct h 5 + 1 := zct_n (h := zsi h 4 p.toNat 4 (zE 1)) (k := 5) (n := 0) (sl := 11)
    omega
  · rw [zrlS_30]
    have : zct (zadx (zrlH h a p (s 1 0)) 16 5 (zct h 5)) 25 = zct h 25 + 1 := zct_n (h := zsi (zrlA h p) 5 (zct h 5) 2 (zE 0)) (k := 25) (n := 3) (sl := 3)
    omega
  · rw [zrlS_30]
    have : zct (zadx (zrlH h a p (s 1 0)) 16 5 (zct h 5)) 26 = zct h 26 + 1 := zct_n (h := zrlB h p) (k := 26) (n := 3) (sl := 3)
    omega
theorem zrlS_W {s : zS} {a p : Int} (hW : zWf s) (h20 : s 30 0 < 20) (a0 : 0 ≤ a) (a1 : a < s 2 0) (p0 : 0 ≤ p) (p1 : p < s 25 0) (p2 : s 26 p ≠ 0) (hx : ¬ zxs 0 (s 30 0) (zrlP s a)) : zWf (zrlS s a p) := by
  obtain ⟨wA, wK, wC, wD, wP, wR, wZ, wT, wG, wE, wM, wX⟩ := hW
  have hn := wR.1
  have h26 := wP.2.1 p p0 p1
  have hd := wD.1
  have ht := wT.1
  obtain ⟨g1, g2, g3, g4, g5, g6⟩ := wX.2.2.2.2.2.1 (s 30 0) (by omega) (by omega)
  obtain ⟨f1, f2, f3, f4⟩ := zrlS_n (s := s) (a := a) (p := p)
  refine ⟨wA, wK, wC, wD, wP, ⟨?_, wR.2.1, fun u u0 u1 => ?_⟩, wZ, wT, wG, wE, wM, wX.1, wX.2.1, wX.2.2.1, wX.2.2.2.1, wX.2.2.2.2.1, fun u u0 u1 => ?_, wX.2.2.2.2.2.2.1, fun u u' u0 u1 u2 u3 => ?_, wX.2.2.2.2.2.2.2.2⟩
  · rw [zrlS_30]; omega
  · rw [zrlS_30] at u1
    show (0 ≤ zrlS s a p 31 u ∧ zrlS s a p 31 u < s 2 0) ∧ (0 ≤ zrlS s a p 32 u ∧ zrlS s a p 32 u < s 25 0) ∧ (0 ≤ s 33 u ∧ s 33 u ≤ 4) ∧ (0 ≤ s 34 u ∧ s 34 u ≤ s 26 (zrlS s a p 32 u)) ∧ (s 33 u ≤ 1 → s 34 u < s 26 (zrlS s a p 32 u)) ∧ (0 ≤ zrlS s a p 35 u ∧ zrlS s a p 35 u ≤ s 1 0) ∧ (0 ≤ s 36 u ∧ s 36 u ≤ 63) ∧ (0 ≤ s 37 u ∧ s 37 u ≤ 1) ∧ (0 ≤ s 38 u ∧ s 38 u ≤ 1) ∧ (-1 ≤ zrlS s a p 40 u ∧ zrlS s a p 40 u < s 58 0) ∧ ∀ g, 0 ≤ g → g < 3 → (0 ≤ s 41 (3 * u + g) ∧ s 41 (3 * u + g) ≤ 1) ∧ (s 41 (3 * u + g) = 1 → -1 ≤ s 42 (3 * u + g) ∧ s 42 (3 * u + g) < s 2 0 ∧ s 42 (3 * u + g) ≠ zrlS s a p 31 u ∧ (s 42 (3 * u + g) ≠ -1 → s 3 (s 42 (3 * u + g)) = s 3 (zrlS s a p 31 u)))
    by_cases e : u = s 30 0
    · subst e
      rw [f1, f2, f3, f4, g1, g2, g3, g4, g5]
      refine ⟨by omega, by omega, by omega, by omega, by omega, by omega, by omega, by omega, by omega, by omega, fun g g0 g1 => ?_⟩
      rw [g6 g g0 g1]
      exact ⟨by omega, fun z => by omega⟩
    · obtain ⟨f1, f2, f3, f4⟩ := zrlS_o (s := s) (a := a) (p := p) e
      rw [f1, f2, f3, f4]
      exact wR.2.2 u u0 (by omega)
  · rw [zrlS_30] at u0
    exact wX.2.2.2.2.2.1 u (by omega) u1
  · rw [zrlS_30] at u2
    show 1 < s 33 u ∨ 1 < s 33 u'
    rw [(zrlS_o (s := s) (a := a) (p := p) (u := u) (by omega)).1] at u3
    by_cases e : u' = s 30 0
    · subst e
      rw [f1] at u3
      exact Or.inl (Classical.not_not.mp fun z => hx ⟨u, u0, by omega, u3, z⟩)
    · rw [(zrlS_o (s := s) (a := a) (p := p) (u := u') e).1] at u3
      exact wX.2.2.2.2.2.2.2.1 u u' u0 u1 (by omega) u3
theorem zp158_x {x1 x2 : Int32} {t : Int} {h : zH} (t1 : 1 ≤ t) (t2 : t ≤ 2) : zm158_32 (some (13, 0)) x1 x2 (some (13, 0)) (zE t) h = some (.inl (zE 0), zsi h 13 0 0 (zE t)) := by
  rw [zm158_32, zM_ob, zlet_s, zM_ob, if_neg, zE_0]
  rw [zi_s, zE_0, zE_le (by omega) (by omega) (by omega) (by omega)]
  omega
theorem zr_release (x y : Int32) : zPrI (fun h => zm52 (some (12, 0)) x y h) (fun h => zm158 (some (13, 0)) x y h) (fun t => if t = 1 then 2 else 1) 2 := by
  intro h s hC hM hW
  obtain ⟨a, rfl, a1, a2⟩ := zE_ex x
  obtain ⟨p, rfl, p1, p2⟩ := zE_ex y
  have z1 : ¬ zE 1 = zE 0 := by decide
  have hC0 := hC
  have hW0 := hW
  obtain ⟨cr, cs, cA, cP, cR, -⟩ := hC
  have cN := hC0.2.2.2.2.2.2.2.2.2.2.2.2.2
  obtain ⟨wA, wK, wC, wD, wP, wR, wZ, wT, wG, wE, wM, wX⟩ := hW
  have nA := wA.1
  have nP := wP.1
  have nR := wR.1
  have m1 : ∀ h', zMd h' s → ∃ b, zbo b (0 ≤ a ∧ a < s 2 0) ∧ zm142 (some (13, 0)) (zE a) h' = some (.inl (zE b), h') := fun h' hM' => zp142 hM' wA a1 a2
  have m2 : ∀ h', ∃ b, zbo b (0 ≤ p ∧ p ≤ s 25 0 - 1) ∧ zm139 (zE p) (zE 0) (zE (s 25 0 - 1)) h' = some (.inl (zE b), h') := fun h' => zp139i p1 p2 (by omega) (by omega) (by omega) (by omega)
  by_cases q1 : 0 ≤ a ∧ a < s 2 0
  · have m1 : ∀ h', zMd h' s → zm142 (some (13, 0)) (zE a) h' = some (.inl (zE 1), h') := fun h' hM' => by
      obtain ⟨b, b1, b2⟩ := m1 h' hM'
      rwa [b1.u (zbo_1 q1)] at b2
    by_cases q2 : 0 ≤ p ∧ p < s 25 0
    · have m2 : ∀ h', zm139 (zE p) (zE 0) (zE (s 25 0 - 1)) h' = some (.inl (zE 1), h') := fun h' => by
        obtain ⟨b, b1, b2⟩ := m2 h'
        rwa [b1.u (zbo_1 (by omega))] at b2
      have h26 := wP.2.1 p q2.1 q2.2
      by_cases e3 : s 30 0 = 20
      · refine zexI (t := 2) hC0 hW0 (by omega) (by omega) ?_ (fun h' hM' => ?_)
        · simp (discharger := omega) only [zm52, ↓zo_12, ↓zLAz cr cA, zc130, if_pos q1, ↓zb_s, ↓zLPz cr cP, if_pos q2, ↓zLAg cr cA, ↓zo_0, ↓zLPg cr cP, ↓zo_4, ↓zLRz cr cR, e3, zE_0, zE_1, zE_2, zE_3, zE_4, zE_5, zE_6, zE_7, zE_8, zE_9, zE_10, zE_11, zE_12, zE_13, zE_14, zE_neg, zE_20, Int32.le_refl, if_true]
          rfl
        · show zm158 (some (13, 0)) (zE a) (zE p) h' = _
          simp (discharger := omega) only [zm158, ↓zM_ob, m1 h' hM', ↓zb_s, zE_0, zE_1, zE_2, zE_3, zE_4, zE_5, zE_6, zE_7, zE_8, zE_9, zE_10, zE_11, zE_12, zE_13, zE_14, zE_neg, z1, if_false, zMs25 hM', zE_sub, m2, zMs30 hM', e3, zE_20, if_true]
          exact zp158_x (t := 2) (by omega) (by omega)
      · have e3' : ¬ 20 ≤ s 30 0 := by omega
        by_cases e4 : s 26 p = 0
        · refine zexI (t := 2) hC0 hW0 (by omega) (by omega) ?_ (fun h' hM' => ?_)
          · simp (discharger := omega) only [zm52, ↓zo_12, ↓zLAz cr cA, zc130, if_pos q1, ↓zb_s, ↓zLPz cr cP, if_pos q2, ↓zLAg cr cA, ↓zo_0, ↓zLPg cr cP, ↓zo_4, ↓zLRz cr cR, zE_0, zE_1, zE_2, zE_3, zE_4, zE_5, zE_6, zE_7, zE_8, zE_9, zE_10, zE_11, zE_12, zE_13, zE_14, zE_neg, zE_20, zE_le, e3', if_false, zCp3 cP, e4, if_true]
            rfl
          · show zm158 (some (13, 0)) (zE a) (zE p) h' = _
            simp (discharger := omega) only [zm158, ↓zM_ob, m1 h' hM', ↓zb_s, zE_0, zE_1, zE_2, zE_3, zE_4, zE_5, zE_6, zE_7, zE_8, zE_9, zE_10, zE_11, zE_12, zE_13, zE_14, zE_neg, z1, if_false, zMs25 hM', zE_sub, m2, zMs30 hM', zE_20, zE_inj, e3, ↓zMi26 hM', e4, if_true]
            exact zp158_x (t := 2) (by omega) (by omega)
        · obtain ⟨q, k1, k2⟩ := zc53 (a := a) cr cR wR q1.1
          by_cases e5 : zxs 0 (s 30 0) (zrlP s a)
          · have e6 : ¬ q = none := fun z => k1.mp z e5
            refine zexI (t := 2) hC0 hW0 (by omega) (by omega) ?_ (fun h' hM' => ?_)
            · simp (discharger := omega) only [zm52, ↓zo_12, ↓zLAz cr cA, zc130, if_pos q1, ↓zb_s, ↓zLPz cr cP, if_pos q2, ↓zLAg cr cA, ↓zo_0, ↓zLPg cr cP, ↓zo_4, ↓zLRz cr cR, zE_0, zE_1, zE_2, zE_3, zE_4, zE_5, zE_6, zE_7, zE_8, zE_9, zE_10, zE_11, zE_12, zE_13, zE_14, zE_neg, zE_20, zE_le, e3', if_false, zCp3 cP, zE_inj, e4, k2, e6]
              rfl
            · show zm158 (some (13, 0)) (zE a) (zE p) h' = _
              obtain ⟨v, v1, v2, v3⟩ := zp157 hM' wA wR q1.1 q1.2
              have e7 : ¬ v = -1 := fun z => v2.mp z e5
              simp (discharger := omega) only [zm158, ↓zM_ob, m1 h' hM', ↓zb_s, zE_0, zE_1, zE_2, zE_3, zE_4, zE_5, zE_6, zE_7, zE_8, zE_9, zE_10, zE_11, zE_12, zE_13, zE_14, zE_neg, z1, if_false, zMs25 hM', zE_sub, m2, zMs30 hM', zE_20, zE_inj, e3, ↓zMi26 hM', e4, v3, e7]
              exact zp158_x (t := 2) (by omega) (by omega)
          · have e6 : q = none := k1.mpr e5
            subst e6
            have hC' := zrlH_C hC0 hW0 (show s 30 0 < 20 by omega) q1.1 q1.2 q2.1 q2.2
            have hW' := zrlS_W hW0 (show s 30 0 < 20 by omega) q1.1 q1.2 q2.1 q2.2 e4 e5
            have hl := cR.1.2
            have hq := cN.2.2.2.2.2.2.1
            obtain ⟨cc, nn, hc1, hn1, he⟩ := zladd_e (h := zrlH h a p (s 1 0)) (k := 16) (k2 := 5) (i2 := zct h 5) (show zln h 16 0 < 33 by omega)
            have hC2 : zCl (zladd (zrlH h a p (s 1 0)) 16 0 5 (zct h 5)) (zrlS s a p) := by
              rw [he]
              exact hC'.kp zKp_o
            have hK2 : zKp (fun k => ¬ zpc1 k) h (zladd (zrlH h a p (s 1 0)) 16 0 5 (zct h 5)) := by
              rw [he]
              exact zKp.tr (zrl_k _ (fun z => z (by unfold zpc1; decide)) (fun z => z (by unfold zpc1; decide)) (fun z => z (by unfold zpc1; decide)) (fun z => z (by unfold zpc1; decide)) (fun z => z (by unfold zpc1; decide))) zKp_o
            refine zokI (v := s 30 0) (by omega) hW' (h1 := zladd (zrlH h a p (s 1 0)) 16 0 5 (zct h 5)) ?_ hC2 hK2 ?_ ?_ (fun h' hM' => ?_)
            · have g1 : zelB (zrlH h a p (s 1 0)) 16 0 = true := zel_t 5 ⟨rfl, rfl⟩ fun j hj => by
                have := (cR.2 (j : Int) (by omega) (by have : j < zln h 16 0 := hj; omega)).1
                exact this
              have g2 : zi (zrlH h a p (s 1 0)) 16 0 1 = 1 := cR.1.1
              have g3 : zln (zrlH h a p (s 1 0)) 16 0 < 33 := show zln h 16 0 < 33 by omega
              have g0 : ¬ ((3 : Int32) < 0 ∨ 100000 < (3 : Int32).toNatClampNeg) := by decide
              have g4 : (zm9 (some (5, zct h 5)) (some (0, a.toNat)) (some (4, p.toNat)) (zE (s 1 0)) (zrlA h p)) = some (.inl (), zrlH h a p (s 1 0)) := by
                rw [zm9, znn_s, zo_5, zlet_s, if_neg g0, zlet_s, zlet_s, if_neg g0, zlet_s, zlet_s, zlet_s, zlet_s, zlet_s, zE_0]
                rfl
              have g5 : zi (znw (zsi h 4 p.toNat 4 (zE 1)) 5 0 11) 12 0 11 = zE (s 1 0) := zCs11 cs
              have g6 : zr (zsi h 4 p.toNat 4 (zE 1)) 12 0 2 = some (16, 0) := zCr2 cr
              show zm52 (some (12, 0)) (zE a) (zE p) h = _
              simp (discharger := omega) only [zm52, ↓zo_12, ↓zLAz cr cA, zc130, if_pos q1, ↓zb_s, ↓zLPz cr cP, if_pos q2, ↓zLAg cr cA, ↓zo_0, ↓zLPg cr cP, ↓zo_4, ↓zLRz cr cR, zE_0, zE_1, zE_2, zE_3, zE_4, zE_5, zE_6, zE_7, zE_8, zE_9, zE_10, zE_11, zE_12, zE_13, zE_14, zE_neg, zE_20, zE_le, e3', if_false, zCp3 cP, zE_inj, e4, k2, if_true]
              rw [zlet_s, zlet_s, zo_5, g5]
              show zb2 (zm9 (some (5, zct h 5)) (some (0, a.toNat)) (some (4, p.toNat)) (zE (s 1 0)) (zrlA h p)) _ = _
              rw [g4, zb2_s, g6, znn_s, znn_s, zif_s (by rw [show zelB (zrlH h a p (s 1 0)) 16 0 = true from g1]; rfl), zif_s ⟨by rw [g2, zE_1], g3⟩, zlet_s]
              show zlz (zr (zladd (zrlH h a p (s 1 0)) 16 0 5 (zct h 5)) 12 0 2) (zladd (zrlH h a p (s 1 0)) 16 0 5 (zct h 5)) _ = _
              rw [zLRz hC2.1 hC2.2.2.2.2.1, zrlS_30, zE_sub, show s 30 0 + 1 - 1 = s 30 0 by omega]
              rfl
            · rw [he]
              show zce h + 1 + 1 + 1 + cc ≤ _
              omega
            · rw [he]
              show zso h + 11 + 3 + 3 + nn ≤ _
              omega
            · have hM1 := hM'.ws 0 (by decide) 0
              have hM2 := hM1.wa (31, 131, 20) (by decide) (s 30 0) a (by omega)
              have hM3 := hM2.wa (32, 132, 20) (by decide) (s 30 0) p (by omega)
              have hM4 := hM3.wa (35, 135, 20) (by decide) (s 30 0) (s 1 0) (by omega)
              have hM5 := hM4.wa (40, 140, 20) (by decide) (s 30 0) (-1) (by omega)
              have hM6 := hM5.ws 30 (by decide) (s 30 0 + 1)
              refine ⟨_, zsc_c (zsc_c (zsc_c (zsc_c (zsc_c zsc_up)))), ((zup_j (by decide)).trans ((zup_j (by decide)).trans ((zup_j (by decide)).trans ((zup_j (by decide)).trans ((zup_j (by decide)).trans zup_s))))), _, ?_, hM6, (((((zKp_i (fun z => z (Or.inl rfl))).tr (zKp_i (fun z => z (Or.inr (by decide))))).tr (zKp_i (fun z => z (Or.inr (by decide))))).tr (zKp_i (fun z => z (Or.inr (by decide))))).tr (zKp_i (fun z => z (Or.inr (by decide))))).tr (zKp_i (fun z => z (Or.inl rfl))), rfl, rfl⟩
              show zm158 (some (13, 0)) (zE a) (zE p) h' = _
              obtain ⟨v, v1, v2, v3⟩ := zp157 hM' wA wR q1.1 q1.2
              have e7 : v = -1 := v2.mpr e5
              subst e7
              have e1 : zup s 0 0 0 30 0 = s 30 0 := rfl
              have e2 : zup (zup s 0 0 0) 31 (s 30 0) a 30 0 = s 30 0 := rfl
              have e8 : zup (zup (zup s 0 0 0) 31 (s 30 0) a) 32 (s 30 0) p 30 0 = s 30 0 := rfl
              have e8' : zup (zup (zup s 0 0 0) 31 (s 30 0) a) 32 (s 30 0) p 1 0 = s 1 0 := rfl
              have e9 : zup (zup (zup (zup s 0 0 0) 31 (s 30 0) a) 32 (s 30 0) p) 35 (s 30 0) (s 1 0) 30 0 = s 30 0 := rfl
              have e10 : zup (zup (zup (zup (zup s 0 0 0) 31 (s 30 0) a) 32 (s 30 0) p) 35 (s 30 0) (s 1 0)) 40 (s 30 0) (-1) 30 0 = s 30 0 := rfl
              simp (discharger := omega) only [zm158, ↓zM_ob, m1 h' hM', ↓zb_s, zE_0, zE_1, zE_2, zE_3, zE_4, zE_5, zE_6, zE_7, zE_8, zE_9, zE_10, zE_11, zE_12, zE_13, zE_14, zE_neg, z1, if_false, zMs25 hM', zE_sub, m2, zMs30 hM', zE_20, zE_inj, e3, ↓zMi26 hM', e4, v3, if_true]
              simp (discharger := omega) only [zm158_32, ↓zM_ob, zE_0, zE_1, zE_2, zE_3, zE_4, zE_5, zE_6, zE_7, zE_8, zE_9, zE_10, zE_11, zE_12, zE_13, zE_14, zE_neg, if_true, ↓zlet_s, zMs0 hM1, zup_s, Int32.le_refl, zMs30 hM1, e1, ↓zMa31 hM1, zMs30 hM2, e2, ↓zMa32 hM2, zMs30 hM3, zMs1 hM3, e8, e8', ↓zMa35 hM3, zMs30 hM4, e9, ↓zMa40 hM4, zMs30 hM5, e10, zE_add, zMs30 hM6]
              rw [zE_sub, show s 30 0 + 1 - 1 = s 30 0 by omega]
    · have m2 : ∀ h', zm139 (zE p) (zE 0) (zE (s 25 0 - 1)) h' = some (.inl (zE 0), h') := fun h' => by
        obtain ⟨b, b1, b2⟩ := m2 h'
        rwa [b1.u (zbo_0 (by omega))] at b2
      refine zexI (t := 1) hC0 hW0 (by omega) (by omega) ?_ (fun h' hM' => ?_)
      · simp (discharger := omega) only [zm52, ↓zo_12, ↓zLAz cr cA, zc130, if_pos q1, ↓zb_s, ↓zLPz cr cP, if_neg q2, ↓zb_x]
        rfl
      · show zm158 (some (13, 0)) (zE a) (zE p) h' = _
        simp (discharger := omega) only [zm158, ↓zM_ob, m1 h' hM', ↓zb_s, zE_0, zE_1, zE_2, zE_3, zE_4, zE_5, zE_6, zE_7, zE_8, zE_9, zE_10, zE_11, zE_12, zE_13, zE_14, zE_neg, z1, if_false, zMs25 hM', zE_sub, m2, if_true]
        exact zp158_x (t := 1) (by omega) (by omega)
  · have m1 : ∀ h', zMd h' s → zm142 (some (13, 0)) (zE a) h' = some (.inl (zE 0), h') := fun h' hM' => by
      obtain ⟨b, b1, b2⟩ := m1 h' hM'
      rwa [b1.u (zbo_0 q1)] at b2
    refine zexI (t := 1) hC0 hW0 (by omega) (by omega) ?_ (fun h' hM' => ?_)
    · simp (discharger := omega) only [zm52, ↓zo_12, ↓zLAz cr cA, zc130, if_neg q1, ↓zb_x]
      rfl
    · show zm158 (some (13, 0)) (zE a) (zE p) h' = _
      simp (discharger := omega) only [zm158, ↓zM_ob, m1 h' hM', ↓zb_s, zE_0, zE_1, zE_2, zE_3, zE_4, zE_5, zE_6, zE_7, zE_8, zE_9, zE_10, zE_11, zE_12, zE_13, zE_14, zE_neg, if_true]
      exact zp158_x (t := 1) (by omega) (by omega)
