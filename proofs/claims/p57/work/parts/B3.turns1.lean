set_option maxRecDepth 16384
/-! The law's turns: pass, stop, hold, zone, die and rise, why. -/
/-- all that the law holds ahead of a turn's deed -/
def zPr1 (L : Nat) (h : zH) (s : zS) (A R P S M N T : Int) : Prop := zLi h s A R P S M N T ∧ zScr L h ∧ 0 ≤ T ∧ T < 60
theorem zl_pass {k : zK} {L : Nat} {h : zH} {s : zS} {A R P S M N T : Int} {w : Int32} (a : zPr1 L h s A R P S M N T) : zGl k h T (zb (zm242 (w >>> ((4 : Int32) &&& 31)) (6 : Int32) h) fun x142 h141 =>
    zlet ((1 : Int32) + x142) fun x143 =>
    zob 11 (some (12, 0)) fun p145 i146 =>
    zb (zm73 (some (12, 0)) x143 h141) fun x150 h149 =>
    zlet (zE N + x143) fun x151 =>
    zm291_594 k (some (40, 0)) (some (12, 0)) (zE A) (zE R) (zE P) (zE S) (zE M) (zE (s 45 0)) x151 (zE T) w (1 : Int32) h149) := by
  obtain ⟨a, hS, T0⟩ := a
  have ha := a
  obtain ⟨⟨C, W, J⟩, ⟨b1, b2, b3, b4, b5⟩, a3, a4, a5, a6, a7, a8, a9, a10, a11⟩ := a
  obtain ⟨x, x0, x1, ex⟩ := zl242 (h := h) (w >>> ((4 : Int32) &&& 31)) (n := 6) (by omega) (by omega)
  obtain ⟨c, d⟩ := zk_pass C W (x := 1 + x) (by omega) (by omega)
  obtain ⟨h1, e1, W1, C1, F1⟩ := d.go
  rw [zE_6, ex, zb_s, zE_1, zE_add, zlet_s, zo_12, e1, zb_s, zE_add, zlet_s]
  have J1 := zdyN_J W J (1 + x).toNat (by omega)
  have n1 := (zdyN_W W (1 + x).toNat (by omega)).2.1
  have e45 := zdyN_45 W (1 + x).toNat (by omega)
  have kj : ∀ j, zjd j → zdyN s (1 + x).toNat j = s j := fun j hj => zdyN_j W hj _ (by omega)
  refine zl594 (s := zdyN s (1 + x).toNat) ⟨⟨C1, W1, J1⟩, ⟨?_, ?_, ?_, ?_, by omega⟩, a3, a4, ?_, a6, ⟨by omega, by omega⟩, ⟨by omega, by omega⟩, ?_, ?_, ?_⟩ (F1.le (by omega)) T0 ⟨a8.1, by omega⟩
  · rw [kj 2 (by unfold zjd zjn; decide)]; exact b1
  · rw [kj 30 (by unfold zjd zjn; decide)]; exact b2
  · rw [kj 25 (by unfold zjd zjn; decide)]; exact b3
  · rw [kj 46 (by unfold zjd zjn; decide)]; exact b4
  · rw [kj 19 (by unfold zjd zjn; decide)]; exact a5
  · rw [kj 26 (by unfold zjd zjn; decide)]; exact a9
  · rw [kj 31 (by unfold zjd zjn; decide)]; exact a10
  · rw [kj 18 (by unfold zjd zjn; decide)]; exact a11
-- stop
theorem zstT_j {s : zS} {r : Int} {j : Nat} (h : j ≠ 0 ∧ j ≠ 12 ∧ j ≠ 13 ∧ j ≠ 14 ∧ j ≠ 15 ∧ j ≠ 16 ∧ j ≠ 17 ∧ j ≠ 33 ∧ j ≠ 34 ∧ j ≠ 35 ∧ j ≠ 37 ∧ j ≠ 45 ∧ j ≠ 47) : zstT s r j = s j := by
  obtain ⟨h0, h12, h13, h14, h15, h16, h17, h33, h34, h35, h37, h45, h47⟩ := h
  unfold zstT zbkT
  rw [(zco_j 12).1 j h45 h47, zen_j h33 h34 h35 h37, zgb_j h12, zlos_j h13 h14, (zre_j 12).1 j h0 h15 h16 h17]
theorem zstT_J {s : zS} {r : Int} (hJ : zJv s) (r0 : 0 ≤ r) (r1 : r < s 30 0) : zJv (zstT s r) := by
  unfold zstT
  refine zco_sj.J (zbkT_J (zre_sj.J hJ) r0 ?_)
  rw [(zre_j 12).1 30 (by decide) (by decide) (by decide) (by decide)]
  exact r1
theorem zstT_33 {s : zS} {r : Int} : zstT s r 33 r = 3 := by
  unfold zstT zbkT
  rw [(zco_j 12).1 33 (by decide) (by decide)]
  exact zen_r (by decide) _
theorem zstT_45 {s : zS} {r : Int} : s 45 0 ≤ zstT s r 45 0 ∧ zstT s r 45 0 ≤ s 45 0 + 12 := by
  have h := (zco_j (s := zre s 12) (t := zbkT (zre s 12) r) 12).2.1.1
  have c := zcnt_r (zoth3 (zre s 12) (zbkT (zre s 12) r)) 12
  have e : zbkT (zre s 12) r 45 0 = s 45 0 := by
    unfold zbkT
    rw [zen_j (by decide) (by decide) (by decide) (by decide), zgb_j (by decide), zlos_j (by decide) (by decide), (zre_j 12).1 45 (by decide) (by decide) (by decide) (by decide)]
  unfold zstT
  rw [h, e]
  omega
theorem zl_stop {k : zK} {L : Nat} {h : zH} {s : zS} {A R P S M N T : Int} {w : Int32} (a : zPr1 L h s A R P S M N T) : zGl k h T (if zE R ≤ 0 then
      zm291_594 k (some (40, 0)) (some (12, 0)) (zE A) (zE R) (zE P) (zE S) (zE M) (zE (s 45 0)) (zE N) (zE T) w (1 : Int32) h
    else
      zob 11 (some (12, 0)) fun p39 i40 =>
      zb (zm61 (some (12, 0)) (zE R - (1 : Int32)) h) fun x44 h43 =>
      if (2 : Int32) ≤ x44 then
        zm291_594 k (some (40, 0)) (some (12, 0)) (zE A) (zE R) (zE P) (zE S) (zE M) (zE (s 45 0)) (zE N) (zE T) w (1 : Int32) h43
      else
        zb (zm55 (some (12, 0)) (zE R - (1 : Int32)) h43) fun x47 h46 =>
        if x47 < 0 then
          zm291_304 k (some (40, 0)) (some (12, 0)) (zE A) (zE R) (zE P) (zE S) (zE M) (zE (s 45 0)) (zE N) (zE T) w (0 : Int32) h46
        else
          if (3 : Int32) < x47 then
            zm291_304 k (some (40, 0)) (some (12, 0)) (zE A) (zE R) (zE P) (zE S) (zE M) (zE (s 45 0)) (zE N) (zE T) w (0 : Int32) h46
          else
            zb (zm61 (some (12, 0)) (zE R - (1 : Int32)) h46) fun x51 h50 =>
            if x51 = (3 : Int32) then
              zb (zm63 (some (12, 0)) (zE R - (1 : Int32)) h50) fun x54 h53 =>
              if x54 = (14 : Int32) then
                zm291_304 k (some (40, 0)) (some (12, 0)) (zE A) (zE R) (zE P) (zE S) (zE M) (zE (s 45 0)) (zE N) (zE T) w (1 : Int32) h53
              else
                zm291_304 k (some (40, 0)) (some (12, 0)) (zE A) (zE R) (zE P) (zE S) (zE M) (zE (s 45 0)) (zE N) (zE T) w (0 : Int32) h53
            else
              zm291_304 k (some (40, 0)) (some (12, 0)) (zE A) (zE R) (zE P) (zE S) (zE M) (zE (s 45 0)) (zE N) (zE T) w (0 : Int32) h50) := by
  obtain ⟨a, hS, T0⟩ := a
  have ha := a
  obtain ⟨⟨C, W, J⟩, ⟨b1, b2, b3, b4, b5⟩, a3, a4, a5, a6, a7, a8, a9, a10, a11⟩ := a
  rw [zE_0, zE_1, zE_2, zE_3, zE_14, zE_sub]
  by_cases c : R ≤ 0
  · rw [if_pos (by rw [zE_le (by omega) (by omega) (by omega) (by omega)]; exact c)]
    exact zl594 ha.up zFr.rf T0 ⟨a8.1, Int.le_refl _⟩
  · rw [if_neg (by rw [zE_le (by omega) (by omega) (by omega) (by omega)]; exact c)]
    have r0 : 0 ≤ R - 1 ∧ R - 1 < s 30 0 := by omega
    have w33 := (W.2.2.2.2.2.1.2.2 (R - 1) r0.1 r0.2).2.2.1
    rw [zo_12, zk_state C W r0, zb_s]
    by_cases c2 : 2 ≤ s 33 (R - 1)
    · rw [if_pos (by rw [zE_le (by omega) (by omega) (by omega) (by omega)]; exact c2)]
      exact zl594 ha.up zFr.rf T0 ⟨a8.1, Int.le_refl _⟩
    · rw [if_neg (by rw [zE_le (by omega) (by omega) (by omega) (by omega)]; exact c2)]
      obtain ⟨n, n0, n1, d⟩ := zk_stop C W r0 (by omega)
      obtain ⟨h1, e1, W1, C1, F1⟩ := d.go
      have kj : ∀ j, j ≠ 0 ∧ j ≠ 12 ∧ j ≠ 13 ∧ j ≠ 14 ∧ j ≠ 15 ∧ j ≠ 16 ∧ j ≠ 17 ∧ j ≠ 33 ∧ j ≠ 34 ∧ j ≠ 35 ∧ j ≠ 37 ∧ j ≠ 45 ∧ j ≠ 47 → zstT s (R - 1) j = s j := fun j hj => zstT_j hj
      have r1 : 0 ≤ R - 1 ∧ R - 1 < zstT s (R - 1) 30 0 := by rw [kj 30 (by decide)]; exact r0
      have e33 : zstT s (R - 1) 33 (R - 1) = 3 := zstT_33
      have e45 := zstT_45 (s := s) (r := R - 1)
      obtain ⟨y, y1, y2⟩ := zk_why C1 W1 r1
      have y3 : y = 14 := by omega
      have e61 := zk_state C1 W1 r1
      rw [e33] at e61
      rw [e1, zb_s, if_neg (by rw [zE_lt (by omega) (by omega) (by omega) (by omega)]; omega), if_neg (by rw [zE_lt (by omega) (by omega) (by omega) (by omega)]; omega), e61, zb_s, if_pos rfl, y1, zb_s, if_pos (by rw [y3]), zm291_304]
      have sl : zSl s (zstT s (R - 1)) := by
        refine ⟨?_, ?_, ?_, ?_, ?_, ?_, ?_, ?_, ?_⟩ <;> exact kj _ (by decide)
      refine zl594 (s := zstT s (R - 1)) (ha.up.sl sl C1 W1 (zstT_J J r0.1 r0.2) ⟨by omega, by omega⟩) (F1.le (by omega)) T0 ⟨a8.1, by omega⟩
-- hold
theorem zl_hold {k : zK} {L : Nat} {h : zH} {s : zS} {A R P S M N T v : Int} {w : Int32} (a : zPr1 L h s A R P S M N T) (v0 : 0 ≤ v ∧ v < 2) : zGl k h T (zob 11 (some (12, 0)) fun p87 i88 =>
    zb (zm106 (some (12, 0)) (zE v) h) fun x92 h91 =>
    zb (zm106 (some (12, 0)) (zE v) h91) fun x94 h93 =>
    if x94 = x92 then
      zm291_433 k (some (40, 0)) (some (12, 0)) (zE A) (zE R) (zE P) (zE S) (zE M) (zE (s 45 0)) (zE N) (zE T) w (zE v) (0 : Int32) h93
    else
      zm291_433 k (some (40, 0)) (some (12, 0)) (zE A) (zE R) (zE P) (zE S) (zE M) (zE (s 45 0)) (zE N) (zE T) w (zE v) (1 : Int32) h93) := by
  obtain ⟨a, hS, T0⟩ := a
  have a8 := a.2.2.2.2.2.2.2.1
  obtain ⟨⟨C, W, J⟩, -⟩ := id a
  have w50 := (W.2.2.2.1.2.2 v (by omega) (by omega)).2.2.2.2
  obtain ⟨h1, e1, W1, C1, F1⟩ := (zk_hold C W (a := v) (by omega)).go
  have i1 := a.wr (by decide) (by decide) (by decide) C1 W1
  obtain ⟨h2, e2, W2, C2, F2⟩ := (zk_hold C1 W1 (a := v) (by omega)).go
  have i2 := i1.wr (by decide) (by decide) (by decide) C2 W2
  rw [zup_s] at e2
  obtain ⟨x, x0, x1, ex⟩ := zl242 (h := h2) (w >>> ((4 : Int32) &&& 31)) (n := 2) (by omega) (by omega)
  have E45 : ∀ t : zS, t 45 = s 45 → 0 ≤ s 45 0 ∧ s 45 0 ≤ t 45 0 := fun t e => by rw [e]; exact ⟨a8.1, Int.le_refl _⟩
  rw [zo_12, e1, zb_s, e2, zb_s, if_neg (by rw [zE_inj (by omega) (by omega) (by omega) (by omega)]; omega), zm291_433, zE_2, ex, zb_s, zE_0, zE_1]
  by_cases c : x = 0
  · obtain ⟨h3, e3, W3, C3, F3⟩ := (zk_hold C2 W2 (a := v) (by omega)).go
    have i3 := i2.wr (by decide) (by decide) (by decide) C3 W3
    rw [if_pos (by rw [c]), zo_12, e3, zb_s]
    exact zl594 i3.up (((F1.tr F2).tr F3).le (by omega)) T0 (E45 _ rfl)
  · rw [if_neg (by rw [zE_inj (by omega) (by omega) (by omega) (by omega)]; exact c)]
    exact zl594 i2.up ((F1.tr F2).le (by omega)) T0 (E45 _ rfl)
-- zone
theorem zpls_56 {s : zS} {g z : Int} (z0 : 0 ≤ z ∧ z ≤ 2) (hb : s 56 (3 * g + z) = 0 ∨ s 56 (3 * g + z) = 1) : zpls (zup s 56 (3 * g + z) (1 - s 56 (3 * g + z))) g = zpls s g + (if s 56 (3 * g + z) = 0 then -4 else 4) := by
  have f : ∀ y : Int, zup s 56 (3 * g + z) (1 - s 56 (3 * g + z)) 56 (3 * g + y) = if y = z then 1 - s 56 (3 * g + z) else s 56 (3 * g + y) := fun y => by
    by_cases e : y = z
    · rw [e, zup_s, if_pos rfl]
    · rw [zup_a (by omega), if_neg e]
  unfold zpls
  rw [zup_j (by decide)]
  simp only [zsum, f]
  obtain rfl | rfl | rfl : z = 0 ∨ z = 1 ∨ z = 2 := by omega
  · rw [Int.add_zero] at hb
    rcases hb with b | b <;> simp [b] <;> omega
  · rcases hb with b | b <;> simp [b] <;> omega
  · rcases hb with b | b <;> simp [b] <;> omega
theorem zl_zone {k : zK} {L : Nat} {h : zH} {s : zS} {A R P S M N T g : Int} {w : Int32} (a : zPr1 L h s A R P S M N T) (g0 : 0 ≤ g ∧ g < 3) : zGl k h T (zob 11 (some (12, 0)) fun p97 i98 =>
    zb (zm111 (some (12, 0)) (zE g) h) fun x102 h101 =>
    zb (zm242 (w >>> ((3 : Int32) &&& 31)) (3 : Int32) h101) fun x104 h103 =>
    zb (zm109 (some (12, 0)) (zE g) x104 h103) fun x106 h105 =>
    zb (zm111 (some (12, 0)) (zE g) h105) fun x108 h107 =>
    if x106 = 0 then
      zm291_470 k (some (40, 0)) (some (12, 0)) (zE A) (zE R) (zE P) (zE S) (zE M) (zE (s 45 0)) (zE N) (zE T) w (zE g) x108 x102 (4 : Int32) h107
    else
      zm291_470 k (some (40, 0)) (some (12, 0)) (zE A) (zE R) (zE P) (zE S) (zE M) (zE (s 45 0)) (zE N) (zE T) w (zE g) x108 x102 (-4 : Int32) h107) := by
  have z1 : ¬ zE 1 = zE 0 := by decide
  obtain ⟨a, hS, T0⟩ := a
  have a8 := a.2.2.2.2.2.2.2.1
  obtain ⟨⟨C, W, J⟩, -⟩ := id a
  obtain ⟨z, z0, z1', ez⟩ := zl242 (h := h) (w >>> ((3 : Int32) &&& 31)) (n := 3) (by omega) (by omega)
  rw [zE_3] at ez
  have w56 := W.2.2.2.2.2.2.1.2.2.1 (3 * g + z) (by omega) (by omega)
  have w57 := W.2.2.2.2.2.2.1.2.2.2 g (by omega) (by omega)
  have e111 := zk_left C W (a := g) (by omega)
  obtain ⟨h1, e1, W1, C1, F1⟩ := (zk_zone C W (a := g) (b := z) (by omega) (by omega)).go
  have i1 := a.wr (by decide) (by decide) (by decide) C1 W1
  have e112 := zk_left C1 W1 (a := g) (by omega)
  have ep := zpls_56 (s := s) (g := g) (z := z) ⟨z0, by omega⟩ (by omega)
  have et : ztkn (zup s 56 (3 * g + z) (1 - s 56 (3 * g + z))) g = ztkn s g := rfl
  rw [ep, et] at e112
  obtain ⟨h2, e2, W2, C2, F2⟩ := (zk_surge C1 W1 (a := g) (b := 3) ⟨by omega, by omega⟩).go
  have i2 := i1.wr (by decide) (by decide) (by decide) C2 W2
  obtain ⟨h3, e3, W3, C3, F3⟩ := (zk_surge C2 W2 (a := g) (b := s 57 g) ⟨by omega, by omega⟩).go
  have i3 := i2.wr (by decide) (by decide) (by decide) C3 W3
  rw [zup_s] at e3
  have e57 : zup s 56 (3 * g + z) (1 - s 56 (3 * g + z)) 57 g = s 57 g := zup_j (by decide)
  rw [e57] at e2
  have e475 : zm291_475 k (some (40, 0)) (some (12, 0)) (zE A) (zE R) (zE P) (zE S) (zE M) (zE (s 45 0)) (zE N) (zE T) w (zE g) (zE 1) h1 = zm291_594 k (some (40, 0)) (some (12, 0)) (zE A) (zE R) (zE P) (zE S) (zE M) (zE (s 45 0)) (zE N) (zE T) w (zE 1) h3 := by
    rw [zm291_475, zo_12, zE_3, e2, zb_s, zE_0, if_neg z1, e3, zb_s, if_pos rfl, zE_1, zm291_492]
  have e4 : (-4 : Int32) = zE (-4) := by decide
  have fin : zGl k h T (zm291_594 k (some (40, 0)) (some (12, 0)) (zE A) (zE R) (zE P) (zE S) (zE M) (zE (s 45 0)) (zE N) (zE T) w (zE 1) h3) := zl594 i3.up (((F1.tr F2).tr F3).le (by omega)) T0 ⟨a8.1, Int.le_refl _⟩
  rw [zo_12, e111, zb_s, zE_3, ez, zb_s, e1, zb_s, e112, zb_s, zE_0, e4, zE_4]
  by_cases c : s 56 (3 * g + z) = 0
  · rw [if_neg (by rw [zE_inj (by omega) (by omega) (by omega) (by omega)]; omega), if_pos c, zm291_470, zE_add, if_pos (by congr 1; omega), zE_1, e475]
    exact fin
  · rw [if_pos (by congr 1; omega), if_neg c, zm291_470, zE_add, if_pos (by congr 1; omega), zE_1, e475]
    exact fin
-- die, rise
theorem zl_die {k : zK} {L : Nat} {h : zH} {s : zS} {A R P S M N T : Int} {w : Int32} (a : zPr1 L h s A R P S M N T) : zGl k h T (zob 11 (some (12, 0)) fun p111 i112 =>
    zb (zm83 (some (12, 0)) h) fun x116 h115 =>
    if x116 = 0 then
      zb (zm242 (w >>> ((4 : Int32) &&& 31)) (2 : Int32) h115) fun x119 h118 =>
      if x119 = 0 then
        zm291_521 k (some (40, 0)) (some (12, 0)) (zE A) (zE R) (zE P) (zE S) (zE M) (zE (s 45 0)) (zE N) (zE T) w (1 : Int32) (some (12, 0)) (1 : Int32) h118
      else
        zm291_521 k (some (40, 0)) (some (12, 0)) (zE A) (zE R) (zE P) (zE S) (zE M) (zE (s 45 0)) (zE N) (zE T) w (1 : Int32) (some (12, 0)) (0 : Int32) h118
    else
      zb (zm82 (some (12, 0)) h115) fun x122 h121 =>
      if x122 < 0 then
        zm291_509 k (some (40, 0)) (some (12, 0)) (zE A) (zE R) (zE P) (zE S) (zE M) (zE (s 45 0)) (zE N) (zE T) w (0 : Int32) h121
      else
        zb (zm83 (some (12, 0)) h121) fun x125 h124 =>
        if x125 = 0 then
          zm291_509 k (some (40, 0)) (some (12, 0)) (zE A) (zE R) (zE P) (zE S) (zE M) (zE (s 45 0)) (zE N) (zE T) w (1 : Int32) h124
        else
          zm291_509 k (some (40, 0)) (some (12, 0)) (zE A) (zE R) (zE P) (zE S) (zE M) (zE (s 45 0)) (zE N) (zE T) w (0 : Int32) h124) := by
  obtain ⟨a, hS, T0⟩ := a
  have a8 := a.2.2.2.2.2.2.2.1
  have h20 := a.1.2.1.2.2.2.2.2.1.1
  obtain ⟨⟨C, W, J⟩, -⟩ := id a
  have w43 := W.2.2.2.2.2.2.2.2.2.2.2.1
  rw [zo_12, zk_isDead C W, zb_s, zE_0, zE_1]
  by_cases c : s 43 0 = 0
  · obtain ⟨x, x0, x1, ex⟩ := zl242 (h := h) (w >>> ((4 : Int32) &&& 31)) (n := 2) (by omega) (by omega)
    have go : ∀ b : Int, (b = 0 ∨ b = 1) → zGl k h T (zm291_521 k (some (40, 0)) (some (12, 0)) (zE A) (zE R) (zE P) (zE S) (zE M) (zE (s 45 0)) (zE N) (zE T) w (zE 1) (some (12, 0)) (zE b) h) := fun b hb => by
      obtain ⟨h1, e1, W1, C1, F1⟩ := (zk_die C W hb c).go
      have i1 := a.wr (by decide) (by decide) (by decide) C1 W1
      rw [zm291_521, zo_12, e1, zb_s]
      exact zl594 i1.up (F1.le (by omega)) T0 ⟨a8.1, Int.le_refl _⟩
    rw [if_pos (by rw [c]), zE_2, ex, zb_s]
    by_cases d : x = 0
    · rw [if_pos (by rw [d])]
      exact go 1 (Or.inr rfl)
    · rw [if_neg (by rw [zE_inj (by omega) (by omega) (by omega) (by omega)]; exact d)]
      exact go 0 (Or.inl rfl)
  · rw [if_neg (by rw [zE_inj (by omega) (by omega) (by omega) (by omega)]; exact c)]
    obtain ⟨h1, e1, W1, C1, F1⟩ := (zk_rise C W c).go
    have i1 := a.wr (by decide) (by decide) (by decide) C1 W1
    have n := zcnt_r (fun r => s 33 r = 0) (s 30 0).toNat
    have e2 := zk_isDead C1 W1
    rw [zup_s] at e2
    rw [e1, zb_s, if_neg (by rw [zE_lt (by omega) (by omega) (by omega) (by omega)]; omega), e2, zb_s, if_pos rfl, zm291_509]
    exact zl594 i1.up (F1.le (by omega)) T0 ⟨a8.1, Int.le_refl _⟩
-- why
theorem zl_why {k : zK} {L : Nat} {h : zH} {s : zS} {A R P S M N T : Int} {w : Int32} (a : zPr1 L h s A R P S M N T) : zGl k h T (if zE R ≤ 0 then
      zm291_594 k (some (40, 0)) (some (12, 0)) (zE A) (zE R) (zE P) (zE S) (zE M) (zE (s 45 0)) (zE N) (zE T) w (1 : Int32) h
    else
      zob 11 (some (12, 0)) fun p129 i130 =>
      zb (zm61 (some (12, 0)) (zE R - (1 : Int32)) h) fun x134 h133 =>
      if (2 : Int32) ≤ x134 then
        zm291_594 k (some (40, 0)) (some (12, 0)) (zE A) (zE R) (zE P) (zE S) (zE M) (zE (s 45 0)) (zE N) (zE T) w (1 : Int32) h133
      else
        zb (zm63 (some (12, 0)) (zE R - (1 : Int32)) h133) fun x137 h136 =>
        if x137 < 0 then
          zm291_558 k (some (40, 0)) (some (12, 0)) (zE A) (zE R) (zE P) (zE S) (zE M) (zE (s 45 0)) (zE N) (zE T) w (0 : Int32) h136
        else
          if (14 : Int32) ≤ x137 then
            zm291_558 k (some (40, 0)) (some (12, 0)) (zE A) (zE R) (zE P) (zE S) (zE M) (zE (s 45 0)) (zE N) (zE T) w (0 : Int32) h136
          else
            if x137 = (13 : Int32) then
              zm291_552 k (some (40, 0)) (some (12, 0)) (zE A) (zE R) (zE P) (zE S) (zE M) (zE (s 45 0)) (zE N) (zE T) w (1 : Int32) h136
            else
              zm291_552 k (some (40, 0)) (some (12, 0)) (zE A) (zE R) (zE P) (zE S) (zE M) (zE (s 45 0)) (zE N) (zE T) w (0 : Int32) h136) := by
  obtain ⟨a, hS, T0⟩ := a
  have ha := a
  obtain ⟨⟨C, W, J⟩, ⟨b1, b2, b3, b4, b5⟩, a3, a4, a5, a6, a7, a8, a9, a10, a11⟩ := a
  have w43 := W.2.2.2.2.2.2.2.2.2.2.2.1
  have fin : zGl k h T (zm291_594 k (some (40, 0)) (some (12, 0)) (zE A) (zE R) (zE P) (zE S) (zE M) (zE (s 45 0)) (zE N) (zE T) w (zE 1) h) := zl594 ha.up zFr.rf T0 ⟨a8.1, Int.le_refl _⟩
  have e52 : ∀ b : Int, b = s 43 0 → zm291_552 k (some (40, 0)) (some (12, 0)) (zE A) (zE R) (zE P) (zE S) (zE M) (zE (s 45 0)) (zE N) (zE T) w (zE b) h = zm291_594 k (some (40, 0)) (some (12, 0)) (zE A) (zE R) (zE P) (zE S) (zE M) (zE (s 45 0)) (zE N) (zE T) w (zE 1) h := fun b hb => by
    rw [zm291_552, zo_12, zk_isDead C W, zb_s, if_pos (by rw [hb]), zm291_558, zE_1]
  rw [zE_0, zE_1, zE_2, zE_14, zE_13, zE_sub]
  by_cases c : R ≤ 0
  · rw [if_pos (by rw [zE_le (by omega) (by omega) (by omega) (by omega)]; exact c)]
    exact fin
  · rw [if_neg (by rw [zE_le (by omega) (by omega) (by omega) (by omega)]; exact c)]
    have r0 : 0 ≤ R - 1 ∧ R - 1 < s 30 0 := by omega
    have w33 := (W.2.2.2.2.2.1.2.2 (R - 1) r0.1 r0.2).2.2.1
    rw [zo_12, zk_state C W r0, zb_s]
    by_cases c2 : 2 ≤ s 33 (R - 1)
    · rw [if_pos (by rw [zE_le (by omega) (by omega) (by omega) (by omega)]; exact c2)]
      exact fin
    · rw [if_neg (by rw [zE_le (by omega) (by omega) (by omega) (by omega)]; exact c2)]
      obtain ⟨y, y1, y2⟩ := zk_why C W r0
      have y3 := y2.resolve_left (by omega)
      rw [y1, zb_s, if_neg (by rw [zE_lt (by omega) (by omega) (by omega) (by omega)]; omega), if_neg (by rw [zE_le (by omega) (by omega) (by omega) (by omega)]; omega)]
      by_cases d : y = 13
      · rw [if_pos (by rw [d]), e52 1 (by omega)]
        exact fin
      · rw [if_neg (by rw [zE_inj (by omega) (by omega) (by omega) (by omega)]; exact d), e52 0 (by omega)]
        exact fin
