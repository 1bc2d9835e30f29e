set_option maxRecDepth 16384
/-! The law's turns: a program, an artefact, a release. -/
-- a program
theorem zstS_j {s : zS} {p k o w : Int} {j : Nat} (h : j ≠ 26 ∧ j ≠ 27 ∧ j ≠ 28 ∧ j ≠ 29) : zstS s p k o w j = s j := by
  funext u
  unfold zstS
  exact (zup_j h.1).trans ((zup_j h.2.2.2).trans ((zup_j h.2.2.1).trans (zup_j h.2.1)))
theorem zstS_sj {s : zS} {p k o w : Int} : zSj s (zstS s p k o w) := by
  refine ⟨⟨?_, ?_, ?_, ?_, ?_, ?_, ?_⟩, ?_, ?_, ?_, ?_, ?_, ?_, ?_⟩ <;> exact zstS_j (by decide)
/-- while a program gets its steps: it has i of them -/
def zLp (h : zH) (s : zS) (P S M N T i : Int) : Prop :=
  (zCl h s ∧ zWf s ∧ zJv s) ∧ (s 2 0 = 0 ∧ s 30 0 = 0 ∧ s 25 0 = P + 1 ∧ s 46 0 = M ∧ s 1 0 = N) ∧ (0 ≤ s 45 0 ∧ s 45 0 ≤ 480 * N + 12 * T) ∧ s 19 0 ≤ S ∧ (∀ p, 0 ≤ p → p < P → 1 ≤ s 26 p) ∧ s 26 P = i ∧ ∀ v c, 0 ≤ v → v < 4 → S ≤ c → c < 200 → s 18 (200 * v + c) = -1
theorem zLp.step {h h' : zH} {s : zS} {P S M N T i k o w : Int} (a : zLp h s P S M N T i) (C : zCl h' (zstS s P k o w)) (W : zWf (zstS s P k o w)) : zLp h' (zstS s P k o w) P S M N T (i + 1) := by
  obtain ⟨⟨-, -, J⟩, a2, a3, a4, a5, a6, a7⟩ := a
  have e26 : ∀ p, zstS s P k o w 26 p = if p = P then s 26 P + 1 else s 26 p := fun p => by
    unfold zstS
    by_cases e : p = P
    · rw [e, zup_s, if_pos rfl]
    · rw [zup_a e, if_neg e]
      exact (zup_j (by decide)).trans ((zup_j (by decide)).trans (zup_j (by decide)))
  refine ⟨⟨C, W, zstS_sj.J J⟩, ?_, ?_, ?_, fun p p0 p1 => ?_, ?_, ?_⟩
  · rw [zstS_j (by decide), zstS_j (by decide), zstS_j (by decide), zstS_j (by decide), zstS_j (by decide)]; exact a2
  · rw [zstS_j (by decide)]; exact a3
  · rw [zstS_j (by decide)]; exact a4
  · rw [e26, if_neg (by omega)]; exact a5 p p0 p1
  · rw [e26, if_pos rfl, a6]
  · rw [zstS_j (by decide)]; exact a7
theorem zl_step {k : zK} {L : Nat} {h : zH} {s : zS} {P S M N T E i m : Int} {x10 w : Int32} {n : Nat} (a : zLp h s P S M N T i) (P0 : 0 ≤ P ∧ P < 3) (i0 : 0 ≤ i) (i1 : i < m) (m1 : m ≤ 5) : ∃ h' s', zLp h' s' P S M N T (i + 1) ∧ s' 45 = s 45 ∧ zFr 1 h h' ∧ zm291_67 (zm291_115 k) (n + 1) (some (40, 0)) (some (12, 0)) (zE 0) (zE 0) (zE P) (zE S) (zE M) (zE E) (zE N) (zE T) x10 w (zE 1) (zE m) (zE i) h = zm291_67 (zm291_115 k) n (some (40, 0)) (some (12, 0)) (zE 0) (zE 0) (zE P) (zE S) (zE M) (zE E) (zE N) (zE T) x10 w (zE 1) (zE m) (zE (i + 1)) h' := by
  have ha := a
  obtain ⟨⟨C, W, J⟩, ⟨b1, b2, b3, b4, b5⟩, a3, a4, a5, a6, a7⟩ := a
  obtain ⟨κ, k0, k1, ek⟩ := zl242 (h := h) (x10 >>> (((2 : Int32) * zE i) &&& 31)) (n := 5) (by omega) (by omega)
  have nz : ¬ zxs 0 (s 30 0) (zstU s P) := fun ⟨r, r0, r1, _⟩ => by omega
  have go : ∀ c o : Int, zstO c o 1 → 0 ≤ o → o ≤ 5 → (∀ x, 1 ≤ x → x ≤ 100 → zstO c o x) → ∃ h' s', zLp h' s' P S M N T (i + 1) ∧ s' 45 = s 45 ∧ zFr 1 h h' ∧ zm291_102 (zm291_67 (zm291_115 k) n) (some (40, 0)) (some (12, 0)) (zE 0) (zE 0) (zE P) (zE S) (zE M) (zE E) (zE N) (zE T) x10 w (zE 1) (zE m) (zE i) (some (12, 0)) (zE P) (zE c) (zE o) h = zm291_67 (zm291_115 k) n (some (40, 0)) (some (12, 0)) (zE 0) (zE 0) (zE P) (zE S) (zE M) (zE E) (zE N) (zE T) x10 w (zE 1) (zE m) (zE (i + 1)) h' := fun c o _ o0 o1 hx => by
    obtain ⟨x, x0, x1, ex⟩ := zl242 (h := h) (x10 >>> (((3 : Int32) * zE i) &&& 31)) (n := 100) (by omega) (by omega)
    obtain ⟨h1, e1, W1, C1, F1⟩ := (zk_step C W (p := P) (k := c) (o := o) (w := 1 + x) (by omega) (hx _ (by omega) (by omega)) (by omega) (by omega) (by omega) (by omega) (by omega) nz).go
    refine ⟨h1, _, ha.step C1 W1, zstS_j (by decide), F1, ?_⟩
    rw [zm291_102, zE_100, ex, zb_s, zo_12, zE_1, zE_add, e1, zb_s, zE_add, zlet_s]
  have e86 : ∀ c : Int, (0 ≤ κ ∧ κ < 5) → (κ = 3 → c = 6) → (κ ≠ 3 → c = κ) → ∃ h' s', zLp h' s' P S M N T (i + 1) ∧ s' 45 = s 45 ∧ zFr 1 h h' ∧ zm291_86 (zm291_67 (zm291_115 k) n) (some (40, 0)) (some (12, 0)) (zE 0) (zE 0) (zE P) (zE S) (zE M) (zE E) (zE N) (zE T) x10 w (zE 1) (zE m) (zE i) (zE κ) (some (12, 0)) (zE P) (zE c) h = zm291_67 (zm291_115 k) n (some (40, 0)) (some (12, 0)) (zE 0) (zE 0) (zE P) (zE S) (zE M) (zE E) (zE N) (zE T) x10 w (zE 1) (zE m) (zE (i + 1)) h' := fun c hk c3 c4 => by
    rw [zm291_86]
    by_cases d : κ = 1
    · obtain ⟨o, o0, o1, eo⟩ := zl242 (h := h) (w >>> (zE i &&& 31)) (n := 4) (by omega) (by omega)
      have hc := c4 (by omega)
      rw [if_pos (by rw [d, zE_1]), zE_4, eo, zb_s]
      have ho : ∀ x, 1 ≤ x → x ≤ 100 → zstO c o x := fun x _ _ => by
        unfold zstO
        exact ⟨by omega, fun _ => by omega, fun _ => by omega, fun _ _ _ => by omega, fun _ => by omega⟩
      exact go c o (ho 1 (by omega) (by omega)) o0 (by omega) ho
    · obtain ⟨o, o0, o1, eo⟩ := zl242 (h := h) (w >>> ((zE i + (4 : Int32)) &&& 31)) (n := 3) (by omega) (by omega)
      rw [if_neg (by rw [zE_1, zE_inj (by omega) (by omega) (by omega) (by omega)]; exact d), zE_3, eo, zb_s]
      have ho : ∀ x, 1 ≤ x → x ≤ 100 → zstO c o x := fun x _ _ => by
        unfold zstO
        by_cases d3 : κ = 3
        · have := c3 d3
          exact ⟨by omega, fun _ => by omega, fun _ => by omega, fun _ _ _ => by omega, fun _ => by omega⟩
        · have := c4 d3
          exact ⟨by omega, fun _ => by omega, fun _ => by omega, fun _ _ _ => by omega, fun _ => by omega⟩
      exact go c o (ho 1 (by omega) (by omega)) o0 (by omega) ho
  rw [zm291_67, if_neg (by rw [zE_le (by omega) (by omega) (by omega) (by omega)]; omega), zE_5, ek, zb_s]
  by_cases d : κ = 3
  · rw [if_pos (by rw [d, zE_3]), zE_6]
    exact e86 6 ⟨k0, k1⟩ (fun _ => rfl) (fun z => absurd d z)
  · rw [if_neg (by rw [zE_3, zE_inj (by omega) (by omega) (by omega) (by omega)]; exact d)]
    exact e86 κ ⟨k0, k1⟩ (fun z => absurd z d) (fun _ => rfl)
theorem zl_prog {k : zK} {L : Nat} {h : zH} {s : zS} {A R P S M N T : Int} {x10 w : Int32} (a : zPr1 L h s A R P S M N T) (P3 : P < 3) : zGl k h T (zob 11 (some (12, 0)) fun p170 i171 =>
    zb (zm49 (some (12, 0)) h) fun x175 h174 =>
    zb (zm242 w (5 : Int32) h174) fun x177 h176 =>
    zlet ((1 : Int32) + x177) fun x178 =>
    zm291_67 (zm291_115 k) zN0 (some (40, 0)) (some (12, 0)) (zE A) (zE R) (zE P) (zE S) (zE M) (zE (s 45 0)) (zE N) (zE T) x10 w (1 : Int32) x178 (0 : Int32) h176) := by
  obtain ⟨a, hS, T0⟩ := a
  obtain ⟨⟨C, W, J⟩, ⟨b1, b2, b3, b4, b5⟩, a3, a4, a5, a6, a7, a8, a9, a10, a11⟩ := a
  have A0 : A = 0 := a4.2.2 P3
  have R0 : R = 0 := by omega
  subst A0
  subst R0
  obtain ⟨h1, e1, W1, C1, F1⟩ := (zk_program C W (by omega)).go
  obtain ⟨x, x0, x1, ex⟩ := zl242 (h := h1) w (n := 5) (by omega) (by omega)
  have s26 : s 26 P = 0 := W.2.2.2.2.2.2.2.2.2.2.2.2.2.2.2.1 P (by omega) (by omega)
  have i0 : zLp h1 (zup s 25 0 (s 25 0 + 1)) P S M N T 0 := by
    refine ⟨⟨C1, W1, (zup_sj (by decide)).J J⟩, ⟨b1, b2, ?_, b4, b5⟩, a8, a5.2.2, a9, s26, a11⟩
    rw [zup_s, b3]
  rw [zo_12, e1, zb_s, zE_5, ex, zb_s, zE_1, zE_add, zlet_s, zE_0]
  have LC : ∃ h' s', zLp h' s' P S M N T (1 + x) ∧ s' 45 = s 45 ∧ zFr 6 h h' ∧ zm291_67 (zm291_115 k) zN0 (some (40, 0)) (some (12, 0)) (zE 0) (zE 0) (zE P) (zE S) (zE M) (zE (s 45 0)) (zE N) (zE T) x10 w (zE 1) (zE (1 + x)) (zE 0) h1 = zm291_115 k (some (40, 0)) (some (12, 0)) (zE 0) (zE 0) (zE P) (zE S) (zE M) (zE (s 45 0)) (zE N) (zE T) w (zE 1) h' := by
    refine zloop0 (σ := zH × zS) (W := fun n i z => zm291_67 (zm291_115 k) n (some (40, 0)) (some (12, 0)) (zE 0) (zE 0) (zE P) (zE S) (zE M) (zE (s 45 0)) (zE N) (zE T) x10 w (zE 1) (zE (1 + x)) (zE i) z.1) (N := 1 + x) (fun i z => zLp z.1 z.2 P S M N T i ∧ z.2 45 = s 45 ∧ zFr (1 + i.toNat) h z.1) (fun q => ∃ h' s', zLp h' s' P S M N T (1 + x) ∧ s' 45 = s 45 ∧ zFr 6 h h' ∧ q = zm291_115 k (some (40, 0)) (some (12, 0)) (zE 0) (zE 0) (zE P) (zE S) (zE M) (zE (s 45 0)) (zE N) (zE T) w (zE 1) h') (h1, zup s 25 0 (s 25 0 + 1)) ⟨i0, rfl, F1⟩ (by omega) (by omega) ?_ ?_
    · rintro n ⟨hx, sx⟩ ⟨q1, q2, q3⟩
      refine ⟨hx, sx, q1, q2, q3.le (by omega), ?_⟩
      show zm291_67 (zm291_115 k) (n + 1) (some (40, 0)) (some (12, 0)) (zE 0) (zE 0) (zE P) (zE S) (zE M) (zE (s 45 0)) (zE N) (zE T) x10 w (zE 1) (zE (1 + x)) (zE (1 + x)) hx = _
      rw [zm291_67, if_pos (Int32.le_refl _)]
    · rintro n i ⟨hx, sx⟩ j0 j1 ⟨q1, q2, q3⟩
      obtain ⟨h', s', r1, r2, r3, r4⟩ := zl_step (k := k) (L := L) (E := s 45 0) (m := 1 + x) (x10 := x10) (w := w) (n := n) q1 ⟨a4.1, P3⟩ j0 j1 (by omega)
      refine Or.inr ⟨(h', s'), ⟨r1, r2.trans q2, ?_⟩, r4⟩
      have := q3.tr r3
      exact this.le (by omega)
  obtain ⟨h2, s2, l1, l2, l3, l4⟩ := LC
  obtain ⟨c1, c2, c3, c4, c5, c6, c7⟩ := l1
  obtain ⟨c21, c22, c23, c24, c25⟩ := c2
  rw [l4, zm291_115, zE_1, zE_add, zlet_s]
  refine zl594 (s := s2) ⟨c1, ⟨c21, c22, c23, c24, c25⟩, by omega, ⟨by omega, by omega, fun _ => rfl⟩, ⟨a5.1, a5.2.1, c4⟩, a6, ⟨a7.1, by omega⟩, ⟨c3.1, by omega⟩, fun p p0 p1 => ?_, fun r r0 r1 => by omega, c7⟩ (l3.le (by omega)) T0 ⟨a8.1, by rw [l2]; exact Int.le_refl _⟩
  by_cases e : p = P
  · rw [e, c6]; omega
  · exact c5 p p0 (by omega)
-- an artefact
theorem zatS_j {s : zS} {a b c d e f g p q : Int} {j : Nat} (h : j ∉ [2, 3, 4, 5, 6, 7, 8, 9, 10, 11]) : zatS s a b c d e f g p q j = s j := by
  have n : ∀ i, i ∈ [2, 3, 4, 5, 6, 7, 8, 9, 10, 11] → j ≠ i := fun i hi z => h (z ▸ hi)
  funext u
  unfold zatS
  rw [zup_j (n 2 (by decide)), zup_j (n 11 (by decide)), zup_j (n 10 (by decide)), zup_j (n 9 (by decide)), zup_j (n 8 (by decide)), zup_j (n 7 (by decide)), zup_j (n 6 (by decide)), zup_j (n 5 (by decide)), zup_j (n 4 (by decide)), zup_j (n 3 (by decide))]
theorem zup_ne {s : zS} {j j' : Nat} {a a' v : Int} (h : a' ≠ a) : zup s j a v j' a' = s j' a' := if_neg fun z => h z.2
theorem zatS_a {s : zS} {a b c d e f g p q u : Int} {j : Nat} (h : j ≠ 2) (hu : u ≠ s 2 0) : zatS s a b c d e f g p q j u = s j u := by
  unfold zatS
  rw [zup_j h, zup_ne hu, zup_ne hu, zup_ne hu, zup_ne hu, zup_ne hu, zup_ne hu, zup_ne hu, zup_ne hu, zup_ne hu]
theorem zatS_lv {s : zS} {a b c d e f g p q u : Int} (hW : zWf s) (hu : u ≠ s 2 0) : zlv (zatS s a b c d e f g p q) u (-1) ↔ zlv s u (-1) := by
  rw [zlv_1, zlv_1, zatS_a (by decide) hu, zatS_j (j := 12) (by decide), zatS_j (j := 13) (by decide), zatS_j (j := 18) (by decide)]
theorem zatS_n {s : zS} {a b c d e f g p q : Int} (hW : zWf s) (W1 : zWf (zatS s a b c d e f g p q)) : ¬ zlv (zatS s a b c d e f g p q) (s 2 0) (-1) := by
  have n0 := hW.1.1
  have e2 : zatS s a b c d e f g p q 2 0 = s 2 0 + 1 := zatS_2
  have v0 := (W1.1.2 (s 2 0) (by omega) (by omega)).1
  rw [zlv_1, zatS_j (j := 12) (by decide), zatS_j (j := 13) (by decide), zatS_j (j := 18) (by decide)]
  rintro (⟨x, x0, x1, h⟩ | ⟨x, x0, x1, h⟩)
  · have k := hW.2.1 (3 * zatS s a b c d e f g p q 3 (s 2 0) + x) (by omega) (by omega)
    rcases h with h | h
    · have := k.1; omega
    · have := k.2.1; omega
  · have k := hW.2.2.1.2 (200 * zatS s a b c d e f g p q 3 (s 2 0) + x) (by omega) (by omega)
    omega
theorem zatS_J {s : zS} {a b c d e f g p q : Int} (hW : zWf s) (W1 : zWf (zatS s a b c d e f g p q)) (hJ : zJv s) : zJv (zatS s a b c d e f g p q) := by
  have n0 := hW.1.1
  have e2 : zatS s a b c d e f g p q 2 0 = s 2 0 + 1 := zatS_2
  obtain ⟨j1, j2, j3⟩ := hJ
  refine ⟨fun x y x0 x1 y0 y1 xy lx ly => ?_, ?_, ?_⟩
  · have hx : x ≠ s 2 0 := fun z => zatS_n hW W1 (z ▸ lx)
    have hy : y ≠ s 2 0 := fun z => zatS_n hW W1 (z ▸ ly)
    have r := j1 x y x0 (by omega) y0 (by omega) xy ((zatS_lv hW hx).mp lx) ((zatS_lv hW hy).mp ly)
    unfold zrs at r ⊢
    rw [zatS_a (by decide) hx, zatS_a (by decide) hx, zatS_a (by decide) hx, zatS_a (by decide) hx, zatS_a (by decide) hx, zatS_a (by decide) hx, zatS_a (by decide) hy, zatS_a (by decide) hy, zatS_a (by decide) hy, zatS_a (by decide) hy, zatS_a (by decide) hy, zatS_a (by decide) hy]
    exact r
  · unfold zJk
    rw [zatS_j (j := 12) (by decide), zatS_j (j := 13) (by decide)]
    exact j2
  · unfold zJu
    rw [zatS_j (j := 30) (by decide), zatS_j (j := 31) (by decide), zatS_j (j := 41) (by decide), zatS_j (j := 42) (by decide)]
    exact j3
theorem zl_art2 {k : zK} {L : Nat} {h : zH} {s : zS} {A R P S M N T v b c d e f g p : Int} {w : Int32} (a : zPr1 L h s A R P S M N T) (P3 : P = 3) (A1 : A < 30) (hv : 0 ≤ v ∧ v < 2) (hb : 0 ≤ b ∧ b < 6) (hc : 0 ≤ c ∧ c < 8) (hd : (d = 0 ∧ e = -1) ∨ (1 ≤ d ∧ d ≤ 4 ∧ e = 1 - v)) (hf : 1 ≤ f ∧ f ≤ 255) (hg : 0 ≤ g ∧ g < 8) (hfg : zbt f g) (hp : p = 0 ∨ p = 1) : zGl k h T (zm291_201 k (some (40, 0)) (some (12, 0)) (zE A) (zE R) (zE P) (zE S) (zE M) (zE (s 45 0)) (zE N) (zE T) w (some (12, 0)) (zE v) (zE b) (zE c) (zE d) (zE e) (zE f) (zE g) (zE p) h) := by
  obtain ⟨a, hS, T0⟩ := a
  obtain ⟨⟨C, W, J⟩, ⟨b1, b2, b3, b4, b5⟩, a3, a4, a5, a6, a7, a8, a9, a10, a11⟩ := a
  have ok : (zatO v b c d e f g ∧ zbt f g) ∧ zatN v d e := by
    refine ⟨⟨?_, hfg⟩, ?_⟩
    · unfold zatO
      omega
    · unfold zatN
      exact ⟨fun z => by omega, fun z => by omega⟩
  obtain ⟨h1, e1, W1, C1, F1⟩ := (zk_artefact (p := p) (q := 1) C W hp (Or.inr rfl) ok (by omega) (by omega) (by omega)).go
  have e2 : zatS s v b c d e f g p 1 2 0 = s 2 0 + 1 := zatS_2
  have kj : ∀ j, j ∉ [2, 3, 4, 5, 6, 7, 8, 9, 10, 11] → zatS s v b c d e f g p 1 j = s j := fun j hj => zatS_j hj
  rw [zm291_201, zo_12, zE_1, e1, zb_s, b1, if_pos rfl, zm291_208, zE_1, zE_add, zlet_s]
  refine zl594 (s := zatS s v b c d e f g p 1) ⟨⟨C1, W1, zatS_J W W1 J⟩, ⟨by omega, ?_, ?_, ?_, ?_⟩, by omega, ⟨by omega, by omega, fun z => by omega⟩, ?_, a6, ⟨a7.1, by omega⟩, ?_, ?_, ?_, ?_⟩ (F1.le (by omega)) T0 ?_
  · rw [kj 30 (by decide)]; exact b2
  · rw [kj 25 (by decide)]; exact b3
  · rw [kj 46 (by decide)]; exact b4
  · rw [kj 1 (by decide)]; exact b5
  · rw [kj 19 (by decide)]; exact a5
  · rw [kj 45 (by decide)]; exact ⟨a8.1, by omega⟩
  · rw [kj 26 (by decide)]; exact a9
  · rw [kj 31 (by decide)]; exact a10
  · rw [kj 18 (by decide)]; exact a11
  · rw [kj 45 (by decide)]; exact ⟨a8.1, Int.le_refl _⟩
theorem zl_art {k : zK} {L : Nat} {h : zH} {s : zS} {A R P S M N T v : Int} {w : Int32} (a : zPr1 L h s A R P S M N T) (P3 : P = 3) (hv : 0 ≤ v ∧ v < 2) : zGl k h T (zm291_123 k (some (40, 0)) (some (12, 0)) (zE A) (zE R) (zE P) (zE S) (zE M) (zE (s 45 0)) (zE N) (zE T) w (zE v) (1 : Int32) h) := by
  have z1 : ¬ zE 1 = zE 0 := by decide
  have ha := a
  obtain ⟨a, hS, T0⟩ := a
  have a3 := a.2.2.1
  have a8 := a.2.2.2.2.2.2.2.1
  rw [zm291_123, zE_30, zE_1]
  by_cases c : 30 ≤ A
  · rw [if_pos (by rw [zE_le (by omega) (by omega) (by omega) (by omega)]; exact c)]
    exact zl594 a.up zFr.rf T0 ⟨a8.1, Int.le_refl _⟩
  · rw [if_neg (by rw [zE_le (by omega) (by omega) (by omega) (by omega)]; exact c)]
    obtain ⟨x, x0, x1, ex⟩ := zl242 (h := h) (w >>> ((4 : Int32) &&& 31)) (n := 255) (by omega) (by omega)
    rw [zE_255, ex, zb_s, zE_add, zlet_s]
    obtain ⟨r, hr⟩ : ∃ r, r = 1 + x := ⟨_, rfl⟩
    rw [← hr]
    have r0 : 1 ≤ r ∧ r ≤ 255 := by omega
    obtain ⟨q, q0, q1, q2, q3, q4⟩ := zl_or1 (r := r) (by omega) (by omega)
    -- what is made of the first bit
    have fin : ∀ j : Int, 0 ≤ j → j < 8 → zbt r j → zGl k h T (zm291_144 k (some (40, 0)) (some (12, 0)) (zE A) (zE R) (zE P) (zE S) (zE M) (zE (s 45 0)) (zE N) (zE T) w (zE v) (zE r) (zE j) h) := fun j j0 j1 hj => by
      have f192 : ∀ b c d e g : Int, (0 ≤ b ∧ b < 6) → (0 ≤ c ∧ c < 8) → ((d = 0 ∧ e = -1) ∨ (1 ≤ d ∧ d ≤ 4 ∧ e = 1 - v)) → (0 ≤ g ∧ g < 8) → zbt q g → zGl k h T (zm291_192 k (some (40, 0)) (some (12, 0)) (zE A) (zE R) (zE P) (zE S) (zE M) (zE (s 45 0)) (zE N) (zE T) w (some (12, 0)) (zE v) (zE b) (zE c) (zE d) (zE e) (zE q) (zE g) h) := fun b c d e g hb hc hd hg hq => by
        obtain ⟨y, y0, y1, ey⟩ := zl242 (h := h) (w >>> ((16 : Int32) &&& 31)) (n := 4) (by omega) (by omega)
        rw [zm291_192, zE_4, ey, zb_s, zE_0, zE_1]
        split
        · exact zl_art2 ha P3 (by omega) hv hb hc hd ⟨q0, q1⟩ hg hq (Or.inr rfl)
        · exact zl_art2 ha P3 (by omega) hv hb hc hd ⟨q0, q1⟩ hg hq (Or.inl rfl)
      have f180 : ∀ b c d e : Int, (0 ≤ b ∧ b < 6) → (0 ≤ c ∧ c < 8) → ((d = 0 ∧ e = -1) ∨ (1 ≤ d ∧ d ≤ 4 ∧ e = 1 - v)) → zGl k h T (zm291_180 k (some (40, 0)) (some (12, 0)) (zE A) (zE R) (zE P) (zE S) (zE M) (zE (s 45 0)) (zE N) (zE T) w (zE r) (zE j) (some (12, 0)) (zE v) (zE b) (zE c) (zE d) (zE e) h) := fun b c d e hb hc hd => by
        rw [zm291_180, q2]
        split
        · exact f192 b c d e j hb hc hd ⟨j0, j1⟩ (q4 j j0 j1 hj)
        · rw [zE_0]
          exact f192 b c d e 0 hb hc hd ⟨by omega, by omega⟩ q3
      have f159 : ∀ d : Int, (d = 0 ∨ (1 ≤ d ∧ d ≤ 4)) → zGl k h T (zm291_159 k (some (40, 0)) (some (12, 0)) (zE A) (zE R) (zE P) (zE S) (zE M) (zE (s 45 0)) (zE N) (zE T) w (zE v) (zE r) (zE j) (zE d) h) := fun d hd => by
        obtain ⟨b, b0, b1, eb⟩ := zl242 (h := h) (w >>> ((2 : Int32) &&& 31)) (n := 6) (by omega) (by omega)
        obtain ⟨c, c0, c1, ec⟩ := zl242 (h := h) (w >>> ((6 : Int32) &&& 31)) (n := 8) (by omega) (by omega)
        rw [zm291_159, zE_6, eb, zb_s, zE_8]
        rw [← zE_6, ec, zb_s, zE_0]
        by_cases e : d = 0
        · rw [if_pos (by rw [e]), zE_m1]
          exact f180 b c d (-1) ⟨b0, b1⟩ ⟨c0, c1⟩ (Or.inl ⟨e, rfl⟩)
        · rw [if_neg (by rw [zE_inj (by omega) (by omega) (by omega) (by omega)]; exact e), zE_1, zE_sub]
          exact f180 b c d (1 - v) ⟨b0, b1⟩ ⟨c0, c1⟩ (Or.inr (by omega))
      obtain ⟨y, y0, y1, ey⟩ := zl242 (h := h) (w >>> ((12 : Int32) &&& 31)) (n := 3) (by omega) (by omega)
      rw [zm291_144, zE_3, ey, zb_s, zE_0]
      split
      · obtain ⟨u, u0, u1, eu⟩ := zl242 (h := h) (w >>> ((14 : Int32) &&& 31)) (n := 3) (by omega) (by omega)
        obtain ⟨d, d0, d1, ed⟩ := zl_shl (x := u) u0 u1
        rw [eu, zb_s, ed]
        exact f159 d (Or.inr ⟨d0, d1⟩)
      · exact f159 0 (Or.inl rfl)
    -- the loop up to the first bit
    obtain ⟨j9, k1, k2⟩ := zbit_1 r.toNat (by omega) (by omega)
    refine zloop (W := fun n i (_ : Unit) => zm291_136 (zm291_144 k) n (some (40, 0)) (some (12, 0)) (zE A) (zE R) (zE P) (zE S) (zE M) (zE (s 45 0)) (zE N) (zE T) w (zE v) (zE r) (zE i) h) (lo := 0) (N := (j9 : Int)) (fun i _ => i ≤ j9) (fun z => zGl k h T z) ?_ ?_ j9 zN0 0 () (Int.le_refl _) (by omega) (by unfold zN0; omega) (by omega)
    · intro n _ _
      have hb : zbt r (j9 : Int) := by
        show r.toNat.testBit ((j9 : Int)).toNat = true
        rw [Int.toNat_natCast]
        exact k2
      show zGl k h T (zm291_136 (zm291_144 k) (n + 1) (some (40, 0)) (some (12, 0)) (zE A) (zE R) (zE P) (zE S) (zE M) (zE (s 45 0)) (zE N) (zE T) w (zE v) (zE r) (zE (j9 : Int)) h)
      rw [zm291_136, zl_shb (by omega) (by omega) (by omega) (by omega), if_pos hb, if_neg (by decide)]
      exact fin j9 (by omega) (by omega) hb
    · intro n i _ i0 i1 _
      by_cases hb : zbt r i
      · refine Or.inl ?_
        show zGl k h T (zm291_136 (zm291_144 k) (n + 1) (some (40, 0)) (some (12, 0)) (zE A) (zE R) (zE P) (zE S) (zE M) (zE (s 45 0)) (zE N) (zE T) w (zE v) (zE r) (zE i) h)
        rw [zm291_136, zl_shb (by omega) (by omega) (by omega) (by omega), if_pos hb, if_neg (by decide)]
        exact fin i i0 (by omega) hb
      · refine Or.inr ⟨(), by omega, ?_⟩
        show zm291_136 (zm291_144 k) (n + 1) (some (40, 0)) (some (12, 0)) (zE A) (zE R) (zE P) (zE S) (zE M) (zE (s 45 0)) (zE N) (zE T) w (zE v) (zE r) (zE i) h = _
        rw [zm291_136, zl_shb (by omega) (by omega) (by omega) (by omega), if_neg hb, if_pos rfl, zE_1, zE_add, zlet_s]
-- a release
theorem zrlS_j {s : zS} {a p : Int} {j : Nat} (h : j ∉ [30, 31, 32, 35, 40]) : zrlS s a p j = s j := by
  have n : ∀ i, i ∈ [30, 31, 32, 35, 40] → j ≠ i := fun i hi z => h (z ▸ hi)
  funext u
  unfold zrlS
  rw [zup_j (n 30 (by decide)), zup_j (n 40 (by decide)), zup_j (n 35 (by decide)), zup_j (n 32 (by decide)), zup_j (n 31 (by decide))]
theorem zrlS_31 {s : zS} {a p u : Int} : zrlS s a p 31 u = if u = s 30 0 then a else s 31 u := by
  unfold zrlS
  rw [zup_j (by decide), zup_j (by decide), zup_j (by decide), zup_j (by decide)]
  by_cases e : u = s 30 0
  · rw [e, zup_s, if_pos rfl]
  · rw [zup_a e, if_neg e]
theorem zrlS_J {s : zS} {a p : Int} (hW : zWf s) (h20 : s 30 0 < 20) (hJ : zJv s) : zJv (zrlS s a p) := by
  obtain ⟨j1, j2, j3⟩ := hJ
  have sa : zSa s (zrlS s a p) := by
    refine ⟨?_, ?_, ?_, ?_, ?_, ?_, ?_⟩ <;> exact zrlS_j (by decide)
  refine ⟨zJl_le j1 sa (fun x _ _ l => zlv_le sa.2.1 (fun u z => ?_) (fun u z => ?_) (fun u z => ?_) l), ?_, fun r g r0 r1 g0 g1 h => ?_⟩
  · rwa [zrlS_j (by decide)] at z
  · rwa [zrlS_j (by decide)] at z
  · rwa [zrlS_j (by decide)] at z
  · unfold zJk
    rw [zrlS_j (j := 12) (by decide), zrlS_j (j := 13) (by decide)]
    exact j2
  · rw [zrlS_30] at r1
    rw [zrlS_j (j := 41) (by decide)] at h
    rw [zrlS_j (j := 42) (by decide), zrlS_31]
    by_cases e : r = s 30 0
    · have := (hW.2.2.2.2.2.2.2.2.2.2.2.2.2.2.2.2.1 r (by omega) (by omega)).2.2.2.2.2 g g0 g1
      omega
    · rw [if_neg e]
      exact j3 r g r0 (by omega) g0 g1 h
theorem zl_rele {k : zK} {L : Nat} {h : zH} {s : zS} {A R P S M N T : Int} {w : Int32} (a : zPr1 L h s A R P S M N T) (P3 : P = 3) : zGl k h T (if (20 : Int32) ≤ zE R then
      zm291_594 k (some (40, 0)) (some (12, 0)) (zE A) (zE R) (zE P) (zE S) (zE M) (zE (s 45 0)) (zE N) (zE T) w (1 : Int32) h
    else
      if zE A ≤ zE R then
        zm291_594 k (some (40, 0)) (some (12, 0)) (zE A) (zE R) (zE P) (zE S) (zE M) (zE (s 45 0)) (zE N) (zE T) w (1 : Int32) h
      else
        zb (zm242 (w >>> ((9 : Int32) &&& 31)) (zE P) h) fun x156 h155 =>
        zob 11 (some (12, 0)) fun p157 i158 =>
        zb (zm52 (some (12, 0)) (zE R) x156 h155) fun x162 h161 =>
        if x162 = zE R then
          zb (zm61 (some (12, 0)) (zE R) h161) fun x165 h164 =>
          if x165 = 0 then
            zb (zm62 (some (12, 0)) (zE R) h164) fun x168 h167 =>
            if x168 = 0 then
              zm291_241 k (some (40, 0)) (some (12, 0)) (zE A) (zE R) (zE P) (zE S) (zE M) (zE (s 45 0)) (zE N) (zE T) w (1 : Int32) h167
            else
              zm291_241 k (some (40, 0)) (some (12, 0)) (zE A) (zE R) (zE P) (zE S) (zE M) (zE (s 45 0)) (zE N) (zE T) w (0 : Int32) h167
          else
            zm291_241 k (some (40, 0)) (some (12, 0)) (zE A) (zE R) (zE P) (zE S) (zE M) (zE (s 45 0)) (zE N) (zE T) w (0 : Int32) h164
        else
          zm291_241 k (some (40, 0)) (some (12, 0)) (zE A) (zE R) (zE P) (zE S) (zE M) (zE (s 45 0)) (zE N) (zE T) w (0 : Int32) h161) := by
  obtain ⟨a, hS, T0⟩ := a
  have ha := a
  obtain ⟨⟨C, W, J⟩, ⟨b1, b2, b3, b4, b5⟩, a3, a4, a5, a6, a7, a8, a9, a10, a11⟩ := a
  have fin : zGl k h T (zm291_594 k (some (40, 0)) (some (12, 0)) (zE A) (zE R) (zE P) (zE S) (zE M) (zE (s 45 0)) (zE N) (zE T) w (zE 1) h) := zl594 ha.up zFr.rf T0 ⟨a8.1, Int.le_refl _⟩
  rw [zE_20, zE_1]
  by_cases c : 20 ≤ R
  · rw [if_pos (by rw [zE_le (by omega) (by omega) (by omega) (by omega)]; exact c)]
    exact fin
  · rw [if_neg (by rw [zE_le (by omega) (by omega) (by omega) (by omega)]; exact c)]
    by_cases d : A ≤ R
    · rw [if_pos (by rw [zE_le (by omega) (by omega) (by omega) (by omega)]; exact d)]
      exact fin
    · rw [if_neg (by rw [zE_le (by omega) (by omega) (by omega) (by omega)]; exact d)]
      obtain ⟨x, x0, x1, ex⟩ := zl242 (h := h) (w >>> ((9 : Int32) &&& 31)) (n := P) (by omega) (by omega)
      have n26 := a9 x x0 x1
      have nr : ¬ zxs 0 (s 30 0) (zrlP s R) := fun ⟨r, r0, r1, r2⟩ => by
        unfold zrlP at r2
        have := a10 r r0 (by omega)
        omega
      obtain ⟨h1, e1, W1, C1, F1⟩ := (zk_release C W (a := R) (p := x) (by omega) (by omega) (by omega) (by omega) nr).go
      have e30 : zrlS s R x 30 0 = s 30 0 + 1 := zrlS_30
      have fresh := W.2.2.2.2.2.2.2.2.2.2.2.2.2.2.2.2.1 R (by omega) (by omega)
      have r1 : 0 ≤ R ∧ R < zrlS s R x 30 0 := by omega
      have e61 := zk_state C1 W1 r1
      have e62 := zk_at C1 W1 r1
      rw [zrlS_j (j := 33) (by decide), fresh.1] at e61
      rw [zrlS_j (j := 34) (by decide), fresh.2.1] at e62
      have kj : ∀ j, j ∉ [30, 31, 32, 35, 40] → zrlS s R x j = s j := fun j hj => zrlS_j hj
      rw [ex, zb_s, zo_12, e1, zb_s, b2, if_pos rfl, e61, zb_s, zE_0, if_pos rfl, e62, zb_s, if_pos rfl, zm291_241, zE_1, zE_add, zlet_s]
      refine zl594 (s := zrlS s R x) ⟨⟨C1, W1, zrlS_J W (by omega) J⟩, ⟨?_, by omega, ?_, ?_, ?_⟩, by omega, ⟨by omega, by omega, fun z => by omega⟩, ?_, a6, ⟨a7.1, by omega⟩, ?_, ?_, fun r r0 r1 => ?_, ?_⟩ (F1.le (by omega)) T0 ?_
      · rw [kj 2 (by decide)]; exact b1
      · rw [kj 25 (by decide)]; exact b3
      · rw [kj 46 (by decide)]; exact b4
      · rw [kj 1 (by decide)]; exact b5
      · rw [kj 19 (by decide)]; exact a5
      · rw [kj 45 (by decide)]; exact ⟨a8.1, by omega⟩
      · rw [kj 26 (by decide)]; exact a9
      · rw [zrlS_31]
        by_cases e : r = s 30 0
        · rw [if_pos e]; omega
        · rw [if_neg e]; exact a10 r r0 (by omega)
      · rw [kj 18 (by decide)]; exact a11
      · rw [kj 45 (by decide)]; exact ⟨a8.1, Int.le_refl _⟩
