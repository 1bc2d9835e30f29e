set_option maxRecDepth 16384
/-! The law's turns: sessions, measures, seers. -/
-- a session
theorem zseS_j {s : zS} {v c w d : Int} {j : Nat} (h : j ≠ 18) (h1 : j ≠ 19) : zseS s v c w d j = s j := by
  funext u
  unfold zseS
  exact (zup_j h1).trans (zup_j h)
theorem zseS_q {s : zS} {v c w d u : Int} : zseS s v c w d 18 u = if u = 200 * v + c then w else s 18 u := by
  unfold zseS
  rw [zup_j (by decide)]
  by_cases e : u = 200 * v + c
  · rw [e, zup_s, if_pos rfl]
  · rw [zup_a e, if_neg e]
theorem zseS_19 {s : zS} {v c w d : Int} : zseS s v c w d 19 0 = s 19 0 + d := by
  unfold zseS
  exact zup_s
theorem zseS_sa {s : zS} {v c w d : Int} : zSa s (zseS s v c w d) := by
  refine ⟨?_, ?_, ?_, ?_, ?_, ?_, ?_⟩ <;> exact zseS_j (by decide) (by decide)
theorem zseS_J {s : zS} {v c w d : Int} (hJ : zJv s) (hw : w = -1 ∨ zlv s w (-1)) : zJv (zseS s v c w d) := by
  obtain ⟨j1, j2, j3⟩ := hJ
  refine ⟨zJl_le j1 zseS_sa (fun a a0 a1 l => ?_), ?_, ?_⟩
  · by_cases e : a = w
    · rcases hw with hw | hw
      · omega
      · rw [e]; exact hw
    · refine zlv_le zseS_sa.2.1 (fun u z => ?_) (fun u z => ?_) (fun u z => ?_) l
      · rwa [zseS_j (by decide) (by decide)] at z
      · rwa [zseS_j (by decide) (by decide)] at z
      · rw [zseS_q] at z
        split at z
        · exact absurd z.symm e
        · exact z
  · unfold zJk
    rw [zseS_j (j := 12) (by decide) (by decide), zseS_j (j := 13) (by decide) (by decide)]
    exact j2
  · unfold zJu
    rw [zseS_j (j := 30) (by decide) (by decide), zseS_j (j := 31) (by decide) (by decide), zseS_j (j := 41) (by decide) (by decide), zseS_j (j := 42) (by decide) (by decide)]
    exact j3
theorem zrgf_c (c : Int) : 0 ≤ zrgf c ∧ zrgf c ≤ 2 := by
  unfold zrgf
  split
  · omega
  · split <;> omega
theorem zsnf_lv {s : zS} {v c : Int} (hK : zWk s) (v0 : 0 ≤ v) (v1 : v < 4) (h18 : s 18 (200 * v + c) = -1) (h : zsnf s v c ≠ -1) : zlv s (zsnf s v c) (-1) := by
  have g := zrgf_c c
  unfold zsnf at h ⊢
  rw [if_pos h18] at h ⊢
  split at h
  · rename_i c1
    rw [if_pos c1]
    exact zlv_13 hK (by omega) (by omega) h
  · rename_i c1
    rw [if_neg c1]
    exact zlv_12 hK (by omega) (by omega) h
theorem zl_sees {k : zK} {L : Nat} {h : zH} {s : zS} {A R P S M N T v : Int} {w : Int32} (a : zPr1 L h s A R P S M N T) (hv : 0 ≤ v ∧ v < 2) : zGl k h T (zob 11 (some (12, 0)) fun p57 i58 =>
    zb (zm88 (some (12, 0)) (zE v) (zE S) h) fun x62 h61 =>
    if x62 < 0 then
      zm291_594 k (some (40, 0)) (some (12, 0)) (zE A) (zE R) (zE P) (zE S) (zE M) (zE (s 45 0)) (zE N) (zE T) w (1 : Int32) h61
    else
      if (40 : Int32) ≤ zE S then
        zm291_594 k (some (40, 0)) (some (12, 0)) (zE A) (zE R) (zE P) (zE S) (zE M) (zE (s 45 0)) (zE N) (zE T) w (1 : Int32) h61
      else
        zb (zm91 (some (12, 0)) (zE v) (zE S) h61) fun x66 h65 =>
        if x66 = x62 then
          zb (zm88 (some (12, 0)) (zE v) (zE S) h65) fun x69 h68 =>
          if x69 = x62 then
            zb (zm43 (some (12, 0)) x62 h68) fun x72 h71 =>
            if x72 = 0 then
              zm291_340 k (some (40, 0)) (some (12, 0)) (zE A) (zE R) (zE P) (zE S) (zE M) (zE (s 45 0)) (zE N) (zE T) w (zE v) (zE S) x62 (0 : Int32) h71
            else
              zm291_340 k (some (40, 0)) (some (12, 0)) (zE A) (zE R) (zE P) (zE S) (zE M) (zE (s 45 0)) (zE N) (zE T) w (zE v) (zE S) x62 (1 : Int32) h71
          else
            zm291_340 k (some (40, 0)) (some (12, 0)) (zE A) (zE R) (zE P) (zE S) (zE M) (zE (s 45 0)) (zE N) (zE T) w (zE v) (zE S) x62 (0 : Int32) h68
        else
          zm291_340 k (some (40, 0)) (some (12, 0)) (zE A) (zE R) (zE P) (zE S) (zE M) (zE (s 45 0)) (zE N) (zE T) w (zE v) (zE S) x62 (0 : Int32) h65) := by
  have z1 : ¬ zE 1 = zE 0 := by decide
  obtain ⟨a, hS, T0⟩ := a
  have ha := a
  obtain ⟨⟨C, W, J⟩, ⟨b1, b2, b3, b4, b5⟩, a3, a4, a5, a6, a7, a8, a9, a10, a11⟩ := a
  have hn := W.1.1
  have r1 := zsnf_r W.2.1 W.2.2.1 (v := v) (c := S) (by omega) (by omega) (by omega) (by omega)
  have e88 := zk_sees C W (a := v) (b := S) (by omega)
  have fin : zGl k h T (zm291_594 k (some (40, 0)) (some (12, 0)) (zE A) (zE R) (zE P) (zE S) (zE M) (zE (s 45 0)) (zE N) (zE T) w (zE 1) h) := zl594 ha.up zFr.rf T0 ⟨a8.1, Int.le_refl _⟩
  obtain ⟨q, hq⟩ : ∃ q, zsnf s v S = q := ⟨_, rfl⟩
  rw [hq] at r1 e88
  rw [zo_12, e88, zb_s, zE_0, zE_1, zE_40]
  by_cases c1 : q < 0
  · rw [if_pos (by rw [zE_lt (by omega) (by omega) (by omega) (by omega)]; exact c1)]
    exact fin
  · rw [if_neg (by rw [zE_lt (by omega) (by omega) (by omega) (by omega)]; exact c1)]
    by_cases c2 : 40 ≤ S
    · rw [if_pos (by rw [zE_le (by omega) (by omega) (by omega) (by omega)]; exact c2)]
      exact fin
    · rw [if_neg (by rw [zE_le (by omega) (by omega) (by omega) (by omega)]; exact c2)]
      have h18 := a11 v S (by omega) (by omega) (Int.le_refl _) (by omega)
      have nq : zsnf s v S ≠ -1 := by omega
      have l := zsnf_lv W.2.1 (c := S) hv.1 (by omega) h18 nq
      have qv := zsnf_v W.2.1 W.2.2.1 (v := v) (c := S) hv.1 (by omega) (by omega) (by omega) nq
      obtain ⟨h1, e1, W1, C1, F1⟩ := (zk_begin C W (v := v) (c := S) (by omega) (by omega) h18 nq (by omega)).go
      have J1 := zseS_J (v := v) (c := S) (d := 1) J (Or.inr l)
      rw [hq] at e1 W1 C1 J1 l qv
      have f18 : zseS s v S q 1 18 (200 * v + S) = q := by rw [zseS_q, if_pos rfl]
      have e2 := zk_sees C1 W1 (a := v) (b := S) (by omega)
      have g2 : zsnf (zseS s v S q 1) v S = q := by
        unfold zsnf
        rw [f18, if_neg (by omega)]
      rw [g2] at e2
      have q2 : q < zseS s v S q 1 2 0 := by rw [zseS_j (by decide) (by decide)]; exact r1.2
      have l1 : zlv (zseS s v S q 1) q (-1) := by
        refine zlv_1.mpr (Or.inr ⟨S, by omega, by omega, ?_⟩)
        rw [zseS_j (j := 3) (by decide) (by decide), qv]
        exact f18
      have e3 := zk_live1 C1 W1 (a := q) (by omega) q2 l1
      have i1 : zLi h1 (zseS s v S q 1) A R P (S + 1) M N T := by
        refine ⟨⟨C1, W1, J1⟩, ⟨?_, ?_, ?_, ?_, ?_⟩, a3, a4, ⟨by omega, by omega, ?_⟩, a6, a7, ?_, ?_, ?_, fun v' c' v0 v1 c0 c1 => ?_⟩
        · rw [zseS_j (by decide) (by decide)]; exact b1
        · rw [zseS_j (by decide) (by decide)]; exact b2
        · rw [zseS_j (by decide) (by decide)]; exact b3
        · rw [zseS_j (by decide) (by decide)]; exact b4
        · rw [zseS_j (by decide) (by decide)]; exact b5
        · rw [zseS_19]; omega
        · rw [zseS_j (by decide) (by decide)]; exact a8
        · rw [zseS_j (by decide) (by decide)]; exact a9
        · rw [zseS_j (by decide) (by decide)]; exact a10
        · rw [zseS_q, if_neg (by omega)]
          exact a11 v' c' v0 v1 (by omega) c1
      obtain ⟨x, x0, x1, ex⟩ := zl242 (h := h1) (w >>> ((12 : Int32) &&& 31)) (n := 2) (by omega) (by omega)
      have f45 : ∀ t : zS, t 45 = s 45 → 0 ≤ s 45 0 ∧ s 45 0 ≤ t 45 0 := fun t e => by rw [e]; exact ⟨a8.1, Int.le_refl _⟩
      rw [e1, zb_s, if_pos rfl, e2, zb_s, if_pos rfl, e3, zb_s, if_neg z1, zm291_340, zE_1, zE_add, zlet_s, zE_2, ex, zb_s, zE_0]
      by_cases c3 : x = 0
      · obtain ⟨h2, e4, W2, C2, F2⟩ := (zk_end C1 W1 (v := v) (c := S) (by omega) (by omega) (by omega)).go
        have J2 := zseS_J (v := v) (c := S) (w := -1) (d := -1) J1 (Or.inl rfl)
        rw [f18] at e4
        have i2 : zLi h2 (zseS (zseS s v S q 1) v S (-1) (-1)) A R P (S + 1) M N T := by
          obtain ⟨-, ⟨d1, d2, d3, d4, d5⟩, d6, d7, d8, d9, d10, d11, d12, d13, d14⟩ := i1
          refine ⟨⟨C2, W2, J2⟩, ⟨?_, ?_, ?_, ?_, ?_⟩, d6, d7, ⟨d8.1, d8.2.1, ?_⟩, d9, d10, ?_, ?_, ?_, fun v' c' v0 v1 c0 c1 => ?_⟩
          · rw [zseS_j (by decide) (by decide)]; exact d1
          · rw [zseS_j (by decide) (by decide)]; exact d2
          · rw [zseS_j (by decide) (by decide)]; exact d3
          · rw [zseS_j (by decide) (by decide)]; exact d4
          · rw [zseS_j (by decide) (by decide)]; exact d5
          · rw [zseS_19]; omega
          · rw [zseS_j (by decide) (by decide)]; exact d11
          · rw [zseS_j (by decide) (by decide)]; exact d12
          · rw [zseS_j (by decide) (by decide)]; exact d13
          · rw [zseS_q]
            split
            · rfl
            · exact d14 v' c' v0 v1 c0 c1
        rw [if_pos (by rw [c3]), if_neg z1, zo_12, e4, zb_s, if_pos rfl, zm291_359]
        refine zl594 i2.up ((F1.tr F2).le (by omega)) T0 (f45 _ ?_)
        rw [zseS_j (by decide) (by decide), zseS_j (by decide) (by decide)]
      · rw [if_neg (by rw [zE_inj (by omega) (by omega) (by omega) (by omega)]; exact c3)]
        exact zl594 i1.up (F1.le (by omega)) T0 (f45 _ (zseS_j (by decide) (by decide)))
-- measures
theorem zad_j {s : zS} {w b m : Int} {j : Nat} (h : j ≠ 46 ∧ j ≠ 47 ∧ j ≠ 48 ∧ j ≠ 49) : zadS (zup s 46 0 (s 46 0 + 1)) w b m j = s j := by
  funext u
  unfold zadS
  exact (zup_j h.2.1).trans ((zup_j h.2.2.2).trans ((zup_j h.2.2.1).trans (zup_j h.1)))
theorem zad_46' {s : zS} {w b m : Int} : zadS (zup s 46 0 (s 46 0 + 1)) w b m 46 0 = s 46 0 + 1 := by
  unfold zadS
  exact (zup_j (by decide)).trans ((zup_j (by decide)).trans ((zup_j (by decide)).trans zup_s))
theorem zad_sj {s : zS} {w b m : Int} : zSj s (zadS (zup s 46 0 (s 46 0 + 1)) w b m) := by
  refine ⟨⟨?_, ?_, ?_, ?_, ?_, ?_, ?_⟩, ?_, ?_, ?_, ?_, ?_, ?_, ?_⟩ <;> exact zad_j (by decide)
theorem zLi.ms {h h' : zH} {s : zS} {A R P S M N T w b m : Int} (a : zLi h s A R P S M N T) (M1 : M < 505) (C : zCl h' (zadS (zup s 46 0 (s 46 0 + 1)) w b m)) (W : zWf (zadS (zup s 46 0 (s 46 0 + 1)) w b m)) : zLi h' (zadS (zup s 46 0 (s 46 0 + 1)) w b m) A R P S (M + 1) N T := by
  obtain ⟨⟨-, -, J⟩, ⟨b1, b2, b3, b4, b5⟩, a3, a4, a5, a6, a7, a8, a9, a10, a11⟩ := a
  refine ⟨⟨C, W, zad_sj.J J⟩, ⟨?_, ?_, ?_, ?_, ?_⟩, a3, a4, ?_, by omega, a7, ?_, ?_, ?_, ?_⟩
  · rw [zad_j (by decide)]; exact b1
  · rw [zad_j (by decide)]; exact b2
  · rw [zad_j (by decide)]; exact b3
  · rw [zad_46']; omega
  · rw [zad_j (by decide)]; exact b5
  · rw [zad_j (by decide)]; exact a5
  · rw [zad_j (by decide)]; exact a8
  · rw [zad_j (by decide)]; exact a9
  · rw [zad_j (by decide)]; exact a10
  · rw [zad_j (by decide)]; exact a11
theorem zl_meas1 {k : zK} {h : zH} {s : zS} {A R P S M N T v g E M0 i : Int} {w : Int32} {n : Nat} (a : zLi h s A R P S M N T) (hv : 0 ≤ v ∧ v < 2) (hg : 0 ≤ g ∧ g < 3) (f1 : s 13 (3 * v + g) ≠ -1) (f2 : s 12 (3 * v + g) ≠ -1) (M1 : M < 505) (i0 : 0 ≤ i) (i1 : i < 6) : ∃ h' s', zLi h' s' A R P S (M + 1) N T ∧ s' 12 = s 12 ∧ s' 13 = s 13 ∧ s' 45 = s 45 ∧ zFr 1 h h' ∧ zm291_379 (zm291_416 k) (n + 1) (some (40, 0)) (some (12, 0)) (zE A) (zE R) (zE P) (zE S) (zE M0) (zE E) (zE N) (zE T) w (zE v) (zE g) (zE 1) (zE i) h = zm291_379 (zm291_416 k) n (some (40, 0)) (some (12, 0)) (zE A) (zE R) (zE P) (zE S) (zE M0) (zE E) (zE N) (zE T) w (zE v) (zE g) (zE 1) (zE (i + 1)) h' := by
  have z1 : ¬ zE 1 = zE 0 := by decide
  have ha := a
  obtain ⟨⟨C, W, J⟩, ⟨b1, b2, b3, b4, b5⟩, a3, a4, a5, a6, a7, a8, a9, a10, a11⟩ := a
  have wM := W.2.2.2.2.2.2.2.2.2.2.1
  have go : ∀ c b : Int, (c = 0 ∨ c = 1) → (b = 0 ∨ b = 1) → ∃ h' s', zLi h' s' A R P S (M + 1) N T ∧ s' 12 = s 12 ∧ s' 13 = s 13 ∧ s' 45 = s 45 ∧ zFr 1 h h' ∧ zm291_403 (zm291_379 (zm291_416 k) n) (some (40, 0)) (some (12, 0)) (zE A) (zE R) (zE P) (zE S) (zE M0) (zE E) (zE N) (zE T) w (zE v) (zE g) (zE i) (some (12, 0)) (zE v) (zE g) (zE c) (zE b) h = zm291_379 (zm291_416 k) n (some (40, 0)) (some (12, 0)) (zE A) (zE R) (zE P) (zE S) (zE M0) (zE E) (zE N) (zE T) w (zE v) (zE g) (zE 1) (zE (i + 1)) h' := fun c b hc hb => by
    obtain ⟨x, x0, x1, ex⟩ := zl242 (h := h) (w >>> ((8 : Int32) &&& 31)) (n := 300) (by omega) (by omega)
    have e300 : (300 : Int32) = zE 300 := by decide
    obtain ⟨h1, e1, W1, C1, F1⟩ := (zk_measure C W (x := v) (y := g) (m := x) hc hb (by omega) (by omega) f1 f2 (by omega)).go
    have wu := (wM.2 (2 * (3 * v + g) + c) (by omega) (by omega)).1
    refine ⟨h1, _, ha.ms M1 C1 W1, zad_j (by decide), zad_j (by decide), zad_j (by decide), F1, ?_⟩
    rw [zm291_403, e300, ex, zb_s, zo_12, e1, zb_s, zE_0, if_neg (by rw [zE_le (by omega) (by omega) (by omega) (by omega)]; omega), zm291_413, zE_1, zE_add, zlet_s]
  have g394 : ∀ c : Int, (c = 0 ∨ c = 1) → ∃ h' s', zLi h' s' A R P S (M + 1) N T ∧ s' 12 = s 12 ∧ s' 13 = s 13 ∧ s' 45 = s 45 ∧ zFr 1 h h' ∧ zm291_394 (zm291_379 (zm291_416 k) n) (some (40, 0)) (some (12, 0)) (zE A) (zE R) (zE P) (zE S) (zE M0) (zE E) (zE N) (zE T) w (zE v) (zE g) (zE i) (some (12, 0)) (zE v) (zE g) (zE c) h = zm291_379 (zm291_416 k) n (some (40, 0)) (some (12, 0)) (zE A) (zE R) (zE P) (zE S) (zE M0) (zE E) (zE N) (zE T) w (zE v) (zE g) (zE 1) (zE (i + 1)) h' := fun c hc => by
    obtain ⟨x, x0, x1, ex⟩ := zl242 (h := h) (w >>> (zE i &&& 31)) (n := 3) (by omega) (by omega)
    rw [zm291_394, zE_3, ex, zb_s, zE_0, zE_1]
    split
    · exact go c 1 hc (Or.inr rfl)
    · exact go c 0 hc (Or.inl rfl)
  rw [zm291_379, zE_6, if_neg (by rw [zE_le (by omega) (by omega) (by omega) (by omega)]; omega), zE_0, if_neg z1, zE_1]
  split
  · exact g394 1 (Or.inr rfl)
  · exact g394 0 (Or.inl rfl)
theorem zl_meas {k : zK} {L : Nat} {h : zH} {s : zS} {A R P S M N T v g : Int} {w : Int32} (a : zPr1 L h s A R P S M N T) (hv : 0 ≤ v ∧ v < 2) (hg : 0 ≤ g ∧ g < 3) : zGl k h T (zob 11 (some (12, 0)) fun p75 i76 =>
    zb (zm85 (some (12, 0)) (zE v) (zE g) h) fun x80 h79 =>
    if x80 < 0 then
      zm291_594 k (some (40, 0)) (some (12, 0)) (zE A) (zE R) (zE P) (zE S) (zE M) (zE (s 45 0)) (zE N) (zE T) w (1 : Int32) h79
    else
      zb (zm86 (some (12, 0)) (zE v) (zE g) h79) fun x83 h82 =>
      if x83 < 0 then
        zm291_594 k (some (40, 0)) (some (12, 0)) (zE A) (zE R) (zE P) (zE S) (zE M) (zE (s 45 0)) (zE N) (zE T) w (1 : Int32) h82
      else
        if (500 : Int32) ≤ zE M then
          zm291_594 k (some (40, 0)) (some (12, 0)) (zE A) (zE R) (zE P) (zE S) (zE M) (zE (s 45 0)) (zE N) (zE T) w (1 : Int32) h82
        else
          zm291_379 (zm291_416 k) zN0 (some (40, 0)) (some (12, 0)) (zE A) (zE R) (zE P) (zE S) (zE M) (zE (s 45 0)) (zE N) (zE T) w (zE v) (zE g) (1 : Int32) (0 : Int32) h82) := by
  obtain ⟨a, hS, T0⟩ := a
  have ha := a
  obtain ⟨⟨C, W, J⟩, ⟨b1, b2, b3, b4, b5⟩, a3, a4, a5, a6, a7, a8, a9, a10, a11⟩ := a
  have fin : zGl k h T (zm291_594 k (some (40, 0)) (some (12, 0)) (zE A) (zE R) (zE P) (zE S) (zE M) (zE (s 45 0)) (zE N) (zE T) w (zE 1) h) := zl594 ha.up zFr.rf T0 ⟨a8.1, Int.le_refl _⟩
  have hn := W.1.1
  have wk := W.2.1 (3 * v + g) (by omega) (by omega)
  rw [zo_12, zk_stable C W (a := v) (b := g) (by omega), zb_s, zE_0, zE_1, zE_500]
  by_cases c1 : s 12 (3 * v + g) < 0
  · rw [if_pos (by rw [zE_lt (by omega) (by omega) (by omega) (by omega)]; exact c1)]
    exact fin
  · rw [if_neg (by rw [zE_lt (by omega) (by omega) (by omega) (by omega)]; exact c1), zk_candidate C W (a := v) (b := g) (by omega), zb_s]
    by_cases c2 : s 13 (3 * v + g) < 0
    · rw [if_pos (by rw [zE_lt (by omega) (by omega) (by omega) (by omega)]; exact c2)]
      exact fin
    · rw [if_neg (by rw [zE_lt (by omega) (by omega) (by omega) (by omega)]; exact c2)]
      by_cases c3 : 500 ≤ M
      · rw [if_pos (by rw [zE_le (by omega) (by omega) (by omega) (by omega)]; exact c3)]
        exact fin
      · rw [if_neg (by rw [zE_le (by omega) (by omega) (by omega) (by omega)]; exact c3)]
        refine zloop0 (σ := zH × zS) (W := fun n i z => zm291_379 (zm291_416 k) n (some (40, 0)) (some (12, 0)) (zE A) (zE R) (zE P) (zE S) (zE M) (zE (s 45 0)) (zE N) (zE T) w (zE v) (zE g) (zE 1) (zE i) z.1) (N := 6) (fun i z => zLi z.1 z.2 A R P S (M + i) N T ∧ z.2 12 = s 12 ∧ z.2 13 = s 13 ∧ z.2 45 = s 45 ∧ zFr i.toNat h z.1) (fun q => zGl k h T q) (h, s) ⟨by rw [Int.add_zero]; exact ha, rfl, rfl, rfl, zFr.rf⟩ (by omega) (by omega) ?_ ?_
        · rintro n ⟨hx, sx⟩ ⟨q1, q2, q3, q4, q5⟩
          show zGl k h T (zm291_379 (zm291_416 k) (n + 1) (some (40, 0)) (some (12, 0)) (zE A) (zE R) (zE P) (zE S) (zE M) (zE (s 45 0)) (zE N) (zE T) w (zE v) (zE g) (zE 1) (zE 6) hx)
          rw [zm291_379, zE_6, if_pos (Int32.le_refl _), zm291_416, zE_6, zE_add, zlet_s]
          refine zl594 (s := sx) q1.up (q5.le (by decide)) T0 ⟨a8.1, ?_⟩
          show s 45 0 ≤ sx 45 0
          have q4 : sx 45 = s 45 := q4
          rw [q4]
          exact Int.le_refl _
        · rintro n i ⟨hx, sx⟩ i0 i1 ⟨q1, q2, q3, q4, q5⟩
          have q2 : sx 12 = s 12 := q2
          have q3 : sx 13 = s 13 := q3
          obtain ⟨h', s', r1, r2, r3, r4, r5, r6⟩ := zl_meas1 (k := k) (v := v) (g := g) (E := s 45 0) (M0 := M) (i := i) (w := w) (n := n) q1 hv hg (by show sx 13 (3 * v + g) ≠ -1; rw [q3]; omega) (by show sx 12 (3 * v + g) ≠ -1; rw [q2]; omega) (by omega) i0 i1
          refine Or.inr ⟨(h', s'), ⟨?_, r2.trans q2, r3.trans q3, r4.trans q4, (q5.tr r5).le (by omega)⟩, r6⟩
          rw [show M + (i + 1) = M + i + 1 by omega]
          exact r1
-- seers
theorem zcnt_or {P A B : Int → Prop} : ∀ n : Nat, (∀ u : Int, 0 ≤ u → u < n → (P u ↔ A u ∨ B u) ∧ ¬ (A u ∧ B u)) → zcnt P n = zcnt A n + zcnt B n
  | 0, _ => rfl
  | n + 1, h => by
    have ih := zcnt_or n (fun u u0 u1 => h u u0 (by omega))
    obtain ⟨h1, h2⟩ := h (n : Int) (by omega) (by omega)
    show zcnt P n + zcn1 (P n) = (zcnt A n + zcn1 (A n)) + (zcnt B n + zcn1 (B n))
    by_cases a : A (n : Int)
    · have b : ¬ B (n : Int) := fun b => h2 ⟨a, b⟩
      rw [zcn1_t (h1.mpr (Or.inl a)), zcn1_t a, zcn1_f b]
      omega
    · by_cases b : B (n : Int)
      · rw [zcn1_t (h1.mpr (Or.inr b)), zcn1_f a, zcn1_t b]
        omega
      · rw [zcn1_f (fun z => (h1.mp z).elim a b), zcn1_f a, zcn1_f b]
        omega
theorem zcnt_le {P Q : Int → Prop} : ∀ n : Nat, (∀ u : Int, 0 ≤ u → u < n → P u → Q u) → zcnt P n ≤ zcnt Q n
  | 0, _ => Int.le_refl _
  | n + 1, h => by
    have ih := zcnt_le n (fun u u0 u1 => h u u0 (by omega))
    show zcnt P n + zcn1 (P n) ≤ zcnt Q n + zcn1 (Q n)
    by_cases p : P (n : Int)
    · rw [zcn1_t p, zcn1_t (h n (by omega) (by omega) p)]
      omega
    · have := zcn1_r (Q (n : Int))
      rw [zcn1_f p]
      omega
/-- who of a ring sees one of those ahead of n -/
def zgs (s : zS) (r n u : Int) : Prop := zrgf (u % 200) = r ∧ 0 ≤ zsnf s (u / 200) (u % 200) ∧ zsnf s (u / 200) (u % 200) < n
theorem zgs_s {s : zS} {r n : Int} (n0 : 0 ≤ n) (v0 : 0 ≤ s 3 n) (v1 : s 3 n < 4) : zcnt (zgs s r n) 800 + zcnt (zsrP s n r) 200 ≤ zcnt (zgs s r (n + 1)) 800 := by
  have e : zcnt (zgs s r (n + 1)) 800 = zcnt (zgs s r n) 800 + zcnt (fun u => zrgf (u % 200) = r ∧ zsnf s (u / 200) (u % 200) = n) 800 := by
    refine zcnt_or 800 (fun u _ _ => ⟨⟨fun z => ?_, fun z => ?_⟩, fun z => ?_⟩)
    · unfold zgs at z ⊢
      obtain ⟨z1, z2, z3⟩ := z
      by_cases c : zsnf s (u / 200) (u % 200) = n
      · exact Or.inr ⟨z1, c⟩
      · exact Or.inl ⟨z1, z2, by omega⟩
    · unfold zgs at z ⊢
      rcases z with ⟨z1, z2, z3⟩ | ⟨z1, z2⟩
      · exact ⟨z1, z2, by omega⟩
      · exact ⟨z1, by omega, by omega⟩
    · unfold zgs at z
      have := z.1.2.2
      have := z.2.2
      omega
  rw [e]
  have m : (800 : Nat) = (200 * s 3 n).toNat + (200 + (600 - 200 * s 3 n).toNat) := by omega
  have k : zcnt (zsrP s n r) 200 ≤ zcnt (fun u => zrgf (u % 200) = r ∧ zsnf s (u / 200) (u % 200) = n) 800 := by
    rw [m, zcnt_ap, zcnt_ap]
    have p1 := (zcnt_r (fun u => zrgf (u % 200) = r ∧ zsnf s (u / 200) (u % 200) = n) (200 * s 3 n).toNat).1
    have p2 := (zcnt_r (fun u => zrgf ((((200 * s 3 n).toNat : Int) + (((200 : Nat) : Int) + u)) % 200) = r ∧ zsnf s ((((200 * s 3 n).toNat : Int) + (((200 : Nat) : Int) + u)) / 200) ((((200 * s 3 n).toNat : Int) + (((200 : Nat) : Int) + u)) % 200) = n) (600 - 200 * s 3 n).toNat).1
    have p3 : zcnt (zsrP s n r) 200 ≤ zcnt (fun u => zrgf ((((200 * s 3 n).toNat : Int) + u) % 200) = r ∧ zsnf s ((((200 * s 3 n).toNat : Int) + u) / 200) ((((200 * s 3 n).toNat : Int) + u) % 200) = n) 200 := by
      refine zcnt_le 200 (fun u u0 u1 z => ?_)
      unfold zsrP at z
      have e1 : (((200 * s 3 n).toNat : Int) + u) % 200 = u := by omega
      have e2 : (((200 * s 3 n).toNat : Int) + u) / 200 = s 3 n := by omega
      show zrgf ((((200 * s 3 n).toNat : Int) + u) % 200) = r ∧ zsnf s ((((200 * s 3 n).toNat : Int) + u) / 200) ((((200 * s 3 n).toNat : Int) + u) % 200) = n
      rw [e1, e2]
      exact z
    omega
  omega
noncomputable def zfs9 (s : zS) (r : Int) : Nat → Int
  | 0 => 0
  | n + 1 => zfs9 s r n + zcnt (zsrP s n r) 200
theorem zfs9_r {s : zS} {r : Int} (hA : zWa s) : ∀ n : Nat, (n : Int) ≤ s 2 0 → 0 ≤ zfs9 s r n ∧ zfs9 s r n ≤ zcnt (zgs s r n) 800
  | 0, _ => ⟨Int.le_refl _, (zcnt_r _ 800).1⟩
  | n + 1, hn => by
    have ih := zfs9_r (r := r) hA n (by omega)
    have v := (hA.2 (n : Int) (by omega) (by omega)).1
    have g := zgs_s (s := s) (r := r) (n := (n : Int)) (by omega) v.1 v.2
    have p := (zcnt_r (zsrP s n r) 200).1
    show 0 ≤ zfs9 s r n + zcnt (zsrP s n r) 200 ∧ zfs9 s r n + zcnt (zsrP s n r) 200 ≤ zcnt (zgs s r ((n + 1 : Nat) : Int)) 800
    rw [show ((n + 1 : Nat) : Int) = (n : Int) + 1 by omega]
    omega
/-- how many customers of all services are of a ring -/
def zrn (r : Int) : Nat → Int
  | 0 => 0
  | n + 1 => zrn r n + if zrgf ((n : Int) % 200) = r then 1 else 0
theorem zrn_c {r : Int} : ∀ n : Nat, zcnt (fun u => zrgf (u % 200) = r) n = zrn r n
  | 0 => rfl
  | n + 1 => by
    show zcnt (fun u => zrgf (u % 200) = r) n + zcn1 (zrgf ((n : Int) % 200) = r) = zrn r n + if zrgf ((n : Int) % 200) = r then 1 else 0
    rw [zrn_c n]
    by_cases c : zrgf ((n : Int) % 200) = r
    · rw [zcn1_t c, if_pos c]
    · rw [zcn1_f c, if_neg c]
theorem zrn_0 : zrn 0 800 = 80 := by decide +kernel
theorem zrn_1 : zrn 1 800 = 240 := by decide +kernel
theorem zrn_2 : zrn 2 800 = 480 := by decide +kernel
theorem zfs9_b {s : zS} {r : Int} (hA : zWa s) (n : Nat) (hn : (n : Int) ≤ s 2 0) : 0 ≤ zfs9 s r n ∧ zfs9 s r n ≤ zrn r 800 := by
  obtain ⟨h1, h2⟩ := zfs9_r (r := r) hA n hn
  have h3 : zcnt (zgs s r n) 800 ≤ zcnt (fun u => zrgf (u % 200) = r) 800 := zcnt_le 800 (fun u _ _ z => z.1)
  rw [zrn_c] at h3
  omega
theorem zl_seer {k : zK} {L : Nat} {h : zH} {s : zS} {A R P S M N T g : Int} {w : Int32} (a : zPr1 L h s A R P S M N T) (hg : 0 ≤ g ∧ g < 3) : zGl k h T (zm291_564 (zm291_576 k) zN0 (some (40, 0)) (some (12, 0)) (zE A) (zE R) (zE P) (zE S) (zE M) (zE (s 45 0)) (zE N) (zE T) w (zE g) (0 : Int32) (0 : Int32) h) := by
  obtain ⟨a, hS, T0⟩ := a
  have ha := a
  obtain ⟨⟨C, W, J⟩, ⟨b1, b2, b3, b4, b5⟩, a3, a4, a5, a6, a7, a8, a9, a10, a11⟩ := a
  have fin : zGl k h T (zm291_594 k (some (40, 0)) (some (12, 0)) (zE A) (zE R) (zE P) (zE S) (zE M) (zE (s 45 0)) (zE N) (zE T) w (zE 1) h) := zl594 ha.up zFr.rf T0 ⟨a8.1, Int.le_refl _⟩
  have hb := zfs9_b (s := s) (r := g) W.1
  have e120 : (120 : Int32) = zE 120 := by decide
  have e240 : (240 : Int32) = zE 240 := by decide
  have f587 : ∀ x b : Int, 0 ≤ x → x ≤ 2 * b → b ≤ 240 → zGl k h T (zm291_587 k (some (40, 0)) (some (12, 0)) (zE A) (zE R) (zE P) (zE S) (zE M) (zE (s 45 0)) (zE N) (zE T) w (zE x) (zE b) h) := fun x b x0 x1 x2 => by
    rw [zm291_587, zE_2, zE_mul, if_neg (by rw [zE_lt (by omega) (by omega) (by omega) (by omega)]; omega), zm291_593, zE_1]
    exact fin
  rw [zE_0]
  show zGl k h T (zm291_564 (zm291_576 k) zN0 (some (40, 0)) (some (12, 0)) (zE A) (zE R) (zE P) (zE S) (zE M) (zE (s 45 0)) (zE N) (zE T) w (zE g) (zE (zfs9 s g (0 : Int).toNat)) (zE 0) h)
  refine zloop0 (σ := Unit) (W := fun n i _ => zm291_564 (zm291_576 k) n (some (40, 0)) (some (12, 0)) (zE A) (zE R) (zE P) (zE S) (zE M) (zE (s 45 0)) (zE N) (zE T) w (zE g) (zE (zfs9 s g i.toNat)) (zE i) h) (N := A) (fun _ _ => True) (fun q => zGl k h T q) () trivial (by omega) (by omega) ?_ ?_
  · intro n _ _
    show zGl k h T (zm291_564 (zm291_576 k) (n + 1) (some (40, 0)) (some (12, 0)) (zE A) (zE R) (zE P) (zE S) (zE M) (zE (s 45 0)) (zE N) (zE T) w (zE g) (zE (zfs9 s g A.toNat)) (zE A) h)
    have q := hb A.toNat (by omega)
    rw [zm291_564, if_pos (Int32.le_refl _), zm291_576]
    obtain rfl | rfl | rfl : g = 0 ∨ g = 1 ∨ g = 2 := by omega
    · rw [zrn_0] at q
      rw [if_pos zE_0.symm, zE_40]
      exact f587 _ _ q.1 (by omega) (by omega)
    · rw [zrn_1] at q
      rw [if_neg (by decide), if_pos zE_1.symm, e120]
      exact f587 _ _ q.1 (by omega) (by omega)
    · rw [zrn_2] at q
      rw [if_neg (by decide), if_neg (by decide), e240]
      exact f587 _ _ q.1 (by omega) (by omega)
  · intro n i _ i0 i1 _
    refine Or.inr ⟨(), trivial, ?_⟩
    show zm291_564 (zm291_576 k) (n + 1) (some (40, 0)) (some (12, 0)) (zE A) (zE R) (zE P) (zE S) (zE M) (zE (s 45 0)) (zE N) (zE T) w (zE g) (zE (zfs9 s g i.toNat)) (zE i) h = _
    have ei : zfs9 s g (i + 1).toNat = zfs9 s g i.toNat + zcnt (zsrP s i g) 200 := by
      rw [show (i + 1).toNat = i.toNat + 1 by omega]
      show zfs9 s g i.toNat + zcnt (zsrP s (i.toNat : Int) g) 200 = _
      rw [Int.toNat_of_nonneg i0]
    rw [zm291_564, if_neg (by rw [zE_le (by omega) (by omega) (by omega) (by omega)]; omega), zo_12, zk_seers C W (by omega) (by omega), zb_s, zE_add, zlet_s, zE_1, zE_add, zlet_s, ei]
