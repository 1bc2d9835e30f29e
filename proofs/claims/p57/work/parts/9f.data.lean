set_option maxRecDepth 16384
/-! A day's data: both sides. -/
theorem zw_28 {h : zH} {s : zS} {v k x : Int} (hC : zCl h s) (v0 : 0 ≤ v) (v1 : v < 4) (k0 : 0 ≤ k) (k1 : k < 8) : zCl (zsi h 28 v.toNat k.toNat (zE x)) (zup s 20 (8 * v + k) x) := by
  obtain ⟨c1, c2, c3, c4, c5, c6, c7, c8, c9, c10, c11, c12, c13, c14⟩ := hC
  refine ⟨c1, c2, c3, c4, c5, c6, c7, c8, ⟨c9.1, fun u u0 u1 => ?_⟩, c10, c11, c12, zCM_w c13 (zKp_i (by decide)) rfl rfl rfl rfl, c14⟩
  obtain ⟨p0, p1, p2, p3, p4, p5, p6, p7, p8, p9, p10, p11, p12, p13, p14⟩ := c9.2 u u0 u1
  refine ⟨p0, p1, p2, p3, p4, p5, p6, p7, fun k' k'0 k'1 => ?_, p9, p10, p11, p12, p13, p14⟩
  rw [zif_u]
  by_cases e : 8 * u + k' = 8 * v + k
  · rw [if_pos e, show u = v by omega, show k' = k by omega]
    exact zi_s
  · rw [if_neg e, ← p8 k' k'0 k'1]
    by_cases d : u = v
    · exact zi_j (by omega)
    · exact zi_i (by omega)
def zdaA (t : zS) (v b : Int) : zS := if b = -1 then t else zup t 20 (8 * v + t 9 b) (t 20 (8 * v + t 9 b) + 1)
def zdaS (t : zS) (v g : Int) : zS := zdaA (zdaA t v (t 12 (3 * v + g))) v (t 13 (3 * v + g))
def zda (t : zS) (v : Int) : Nat → zS
  | 0 => t
  | n + 1 => zdaS (zda t v n) v n
def zdc (t : zS) (v : Int) : Int := if t 20 (8 * v + t 22 v) < 5 then t 20 (8 * v + t 22 v) else 5
def zdmS (t : zS) (v : Int) : zS := if t 23 v = -1 then t else zup (zup (zup t 20 (8 * v + t 22 v) (t 20 (8 * v + t 22 v) - zdc t v)) 20 (8 * v + t 23 v) (zup t 20 (8 * v + t 22 v) (t 20 (8 * v + t 22 v) - zdc t v) 20 (8 * v + t 23 v) + zdc t v)) 24 v (t 24 v + zdc t v)
def zdx (t : zS) : Nat → zS
  | 0 => t
  | n + 1 => zdmS (zda (zdx t n) n 3) n
theorem zda_i {t : zS} {v i : Int} (i0 : 0 ≤ i) : zda t v (i + 1).toNat = zdaS (zda t v i.toNat) v i := by
  rw [show (i + 1).toNat = i.toNat + 1 by omega]
  show zdaS _ v (i.toNat : Int) = _
  rw [Int.toNat_of_nonneg i0]
theorem zdx_i {t : zS} {i : Int} (i0 : 0 ≤ i) : zdx t (i + 1).toNat = zdmS (zda (zdx t i.toNat) i 3) i := by
  rw [show (i + 1).toNat = i.toNat + 1 by omega]
  show zdmS (zda (zdx t i.toNat) (i.toNat : Int) 3) (i.toNat : Int) = _
  rw [Int.toNat_of_nonneg i0]
theorem zdaA_j {t : zS} {v b : Int} {j : Nat} (h : j ≠ 20) : zdaA t v b j = t j := by
  unfold zdaA
  by_cases c : b = -1
  · rw [if_pos c]
  · rw [if_neg c]
    funext u
    exact zup_j h
/-- how far the data of a day have come -/
def zdb (t0 t : zS) (v e : Int) : Prop := (∀ j, j ≠ 20 → j ≠ 24 → t j = t0 j) ∧ (∀ x, 0 ≤ x → x < 32 → 0 ≤ t 20 x ∧ t 20 x ≤ t0 20 x + (if x < 8 * v then 11 else if x < 8 * v + 8 then e else 0)) ∧ ∀ u, 0 ≤ u → u < 4 → 0 ≤ t 24 u ∧ t 24 u ≤ t0 24 u + (if u < v then 5 else 0)
theorem zdb_A {t0 t : zS} {v e b : Int} (h : zdb t0 t v e) (hA : zWa t0) (v0 : 0 ≤ v) (v1 : v < 4) (b0 : -1 ≤ b) (b1 : b < t0 2 0) (e0 : 0 ≤ e) : zdb t0 (zdaA t v b) v (e + 1) := by
  obtain ⟨h1, h2, h3⟩ := h
  refine ⟨fun j a c => (zdaA_j a).trans (h1 j a c), fun x x0 x1 => ?_, fun u u0 u1 => by rw [zdaA_j (by decide)]; exact h3 u u0 u1⟩
  have q := h2 x x0 x1
  unfold zdaA
  by_cases c : b = -1
  · rw [if_pos c]
    refine ⟨q.1, ?_⟩
    by_cases c1 : x < 8 * v
    · rw [if_pos c1] at q ⊢; omega
    · rw [if_neg c1] at q ⊢
      by_cases c2 : x < 8 * v + 8
      · rw [if_pos c2] at q ⊢; omega
      · rw [if_neg c2] at q ⊢; omega
  · have s9 := (hA.2 b (by omega) b1).2.2.2.2.2.2.1
    rw [if_neg c, h1 9 (by decide) (by decide), zif_u]
    by_cases d : x = 8 * v + t0 9 b
    · rw [if_pos d, ← d]
      rw [if_neg (by omega), if_pos (by omega)] at q ⊢
      omega
    · rw [if_neg d]
      refine ⟨q.1, ?_⟩
      by_cases c1 : x < 8 * v
      · rw [if_pos c1] at q ⊢; omega
      · rw [if_neg c1] at q ⊢
        by_cases c2 : x < 8 * v + 8
        · rw [if_pos c2] at q ⊢; omega
        · rw [if_neg c2] at q ⊢; omega
theorem zdb_S {t0 t : zS} {v e g : Int} (h : zdb t0 t v e) (hA : zWa t0) (hK : zWk t0) (v0 : 0 ≤ v) (v1 : v < 4) (g0 : 0 ≤ g) (g1 : g < 3) (e0 : 0 ≤ e) : zdb t0 (zdaS t v g) v (e + 2) := by
  have hk := hK (3 * v + g) (by omega) (by omega)
  unfold zdaS
  rw [h.1 12 (by decide) (by decide), h.1 13 (by decide) (by decide), show e + 2 = e + 1 + 1 by omega]
  exact zdb_A (zdb_A h hA v0 v1 hk.1.1 hk.1.2 e0) hA v0 v1 hk.2.1.1 hk.2.1.2 (by omega)
theorem zdb_a {t0 t : zS} {v : Int} (h : zdb t0 t v 0) (hA : zWa t0) (hK : zWk t0) (v0 : 0 ≤ v) (v1 : v < 4) : ∀ n : Nat, n ≤ 3 → zdb t0 (zda t v n) v (2 * n)
  | 0, _ => h
  | n + 1, hn => by
    have := zdb_S (g := n) (zdb_a h hA hK v0 v1 n (by omega)) hA hK v0 v1 (by omega) (by omega) (by omega)
    rw [show ((n + 1 : Nat) : Int) = (n : Int) + 1 by omega, show 2 * ((n : Int) + 1) = 2 * (n : Int) + 2 by omega]
    exact this
theorem zdb_m {t0 t : zS} {v : Int} (h : zdb t0 t v 6) (hv : (0 ≤ t0 22 v ∧ t0 22 v ≤ 7) ∧ -1 ≤ t0 23 v ∧ t0 23 v ≤ 7) (v0 : 0 ≤ v) (v1 : v < 4) : zdb t0 (zdmS t v) (v + 1) 0 := by
  obtain ⟨h1, h2, h3⟩ := h
  have e22 := h1 22 (by decide) (by decide)
  have e23 := h1 23 (by decide) (by decide)
  unfold zdmS
  rw [e22, e23]
  by_cases c : t0 23 v = -1
  · rw [if_pos c]
    refine ⟨h1, fun x x0 x1 => ?_, fun u u0 u1 => ?_⟩
    · have q := h2 x x0 x1
      by_cases c1 : x < 8 * v
      · rw [if_pos c1] at q; rw [if_pos (by omega)]; omega
      · rw [if_neg c1] at q
        by_cases c2 : x < 8 * v + 8
        · rw [if_pos c2] at q; rw [if_pos (by omega)]; omega
        · rw [if_neg c2] at q; rw [if_neg (by omega), ite_self]; omega
    · have q := h3 u u0 u1
      by_cases c1 : u < v
      · rw [if_pos c1] at q; rw [if_pos (by omega)]; omega
      · rw [if_neg c1] at q
        by_cases c2 : u < v + 1
        · rw [if_pos c2]; omega
        · rw [if_neg c2]; omega
  · rw [if_neg c]
    have m := h2 (8 * v + t0 22 v) (by omega) (by omega)
    have hc : 0 ≤ zdc t v ∧ zdc t v ≤ 5 ∧ zdc t v ≤ t 20 (8 * v + t0 22 v) := by
      unfold zdc
      rw [e22]
      by_cases d : t 20 (8 * v + t0 22 v) < 5
      · rw [if_pos d]; omega
      · rw [if_neg d]; omega
    refine ⟨fun j a b => ?_, fun x x0 x1 => ?_, fun u u0 u1 => ?_⟩
    · rw [← h1 j a b]
      funext u
      exact (zup_j b).trans ((zup_j a).trans (zup_j a))
    · have q := h2 x x0 x1
      rw [zup_j (by decide), zif_u, zif_u, zif_u]
      have B : ∀ y : Int, 0 ≤ y → y ≤ t 20 x + 5 → (¬ (8 * v ≤ x ∧ x < 8 * v + 8) → y = t 20 x) → 0 ≤ y ∧ y ≤ t0 20 x + (if x < 8 * (v + 1) then 11 else if x < 8 * (v + 1) + 8 then 0 else 0) := fun y y0 y1 y2 => by
        refine ⟨y0, ?_⟩
        by_cases c1 : x < 8 * v
        · rw [if_pos c1] at q; rw [if_pos (by omega)]; have := y2 (by omega); omega
        · rw [if_neg c1] at q
          by_cases c2 : x < 8 * v + 8
          · rw [if_pos c2] at q; rw [if_pos (by omega)]; omega
          · rw [if_neg c2] at q; rw [if_neg (by omega), ite_self]; have := y2 (by omega); omega
      by_cases d : x = 8 * v + t0 23 v
      · rw [if_pos d]
        by_cases f : 8 * v + t0 23 v = 8 * v + t0 22 v
        · rw [if_pos f]
          rw [← f, ← d] at hc ⊢
          exact B _ (by omega) (by omega) (fun z => by omega)
        · rw [if_neg f, ← d]
          exact B _ (by omega) (by omega) (fun z => by omega)
      · rw [if_neg d]
        by_cases f : x = 8 * v + t0 22 v
        · rw [if_pos f]
          rw [← f] at hc ⊢
          exact B _ (by omega) (by omega) (fun z => by omega)
        · rw [if_neg f]
          exact B _ (by omega) (by omega) (fun _ => rfl)
    · have q := h3 u u0 u1
      rw [zif_u]
      by_cases d : u = v
      · rw [if_pos d, if_pos (by omega), ← d]
        rw [if_neg (by omega)] at q
        rw [← d] at hc
        omega
      · rw [if_neg d, zup_j (by decide), zup_j (by decide)]
        by_cases c1 : u < v
        · rw [if_pos c1] at q; rw [if_pos (by omega)]; omega
        · rw [if_neg c1] at q; rw [if_neg (by omega)]; omega
/-- the class -/
theorem zc26 {h : zH} {t0 t : zS} {v : Int} (hC : zCl h t) (hb : zdb t0 t v 0) (hA : zWa t0) (hK : zWk t0) (hv : (0 ≤ t0 22 v ∧ t0 22 v ≤ 7) ∧ -1 ≤ t0 23 v ∧ t0 23 v ≤ 7) (hB : ∀ x, 0 ≤ x → x < 32 → t0 20 x ≤ 300000) (v0 : 0 ≤ v) (v1 : v < 4) :
    ∃ h', zm26 (some (9, v.toNat)) h = some (.inl (), h') ∧ zCl h' (zdmS (zda t v 3) v) ∧ zfrC h h' := by
  rw [zm26, zE_0]
  refine zloop0 (W := fun n i hx => zm26_2 zm26_38 n (some (9, v.toNat)) (zE i) hx) (N := 3) (fun i hx => zCl hx (zda t v i.toNat) ∧ zfrC h hx) (fun q => ∃ h', q = some (.inl (), h') ∧ zCl h' (zdmS (zda t v 3) v) ∧ zfrC h h') h ⟨hC, zfrC.rf⟩ (by omega) (by omega) ?_ ?_
  · intro n hx ⟨q1, q2⟩
    have b := zdb_a hb hA hK v0 v1 3 (Nat.le_refl _)
    have q1 : zCl hx (zda t v 3) := q1
    generalize ht : zda t v 3 = t1 at *
    have cV : zCV hx t1 := q1.2.2.2.2.2.2.2.2.1
    have e22 := b.1 22 (by decide) (by decide)
    have e23 := b.1 23 (by decide) (by decide)
    rw [← e22, ← e23] at hv
    have m1 : ∀ x : Int32, ¬ x = -1 → ¬ x = zE (-1) := fun x z => by rw [← zE_m1]; exact z
    have n1 : ∀ a : Int, 0 ≤ a → a ≤ 7 → ¬ zE a = zE (-1) := fun a a0 a1 => by rw [zE_inj (by omega) (by omega) (by omega) (by omega)]; omega
    rw [zm26_2, if_pos (by rw [zE_3]; exact Int32.le_refl _), zm26_38, zo_9, zCv5 cV v0 v1, zE_m1]
    unfold zdmS
    by_cases c : t1 23 v = -1
    · refine ⟨hx, ?_, by rw [if_pos c]; exact q1, q2⟩
      rw [c, if_pos rfl, ite_self]
    · rw [zCv4 cV v0 v1 c, if_neg (n1 _ hv.1.1 hv.1.2), if_neg (n1 _ (by omega) hv.2.2), zLUi cV v0 v1 hv.1.1 (by omega)]
      have hr : 0 ≤ t1 20 (8 * v + t1 22 v) ∧ t1 20 (8 * v + t1 22 v) ≤ 400000 := by
        have z := b.2.1 (8 * v + t1 22 v) (by omega) (by omega)
        have z2 := hB (8 * v + t1 22 v) (by omega) (by omega)
        rw [if_neg (by omega), if_pos (by omega)] at z
        omega
      have ec : (if zE (t1 20 (8 * v + t1 22 v)) < (5 : Int32) then zE (t1 20 (8 * v + t1 22 v)) else (5 : Int32)) = zE (zdc t1 v) := by
        unfold zdc
        rw [zE_5]
        by_cases d : t1 20 (8 * v + t1 22 v) < 5
        · rw [if_pos d, if_pos (by rw [zE_lt (by omega) (by omega) (by omega) (by omega)]; exact d)]
        · rw [if_neg d, if_neg (by rw [zE_lt (by omega) (by omega) (by omega) (by omega)]; exact d)]
      have C1 := zw_28 (x := t1 20 (8 * v + t1 22 v) - zdc t1 v) q1 v0 v1 hv.1.1 (by omega)
      have C2 := zw_28 (x := zup t1 20 (8 * v + t1 22 v) (t1 20 (8 * v + t1 22 v) - zdc t1 v) 20 (8 * v + t1 23 v) + zdc t1 v) C1 v0 v1 (k := t1 23 v) (by omega) (by omega)
      have C3 := zw_9_6 (x := t1 24 v + zdc t1 v) C2 v0 v1
      have cV1 : zCV _ _ := C1.2.2.2.2.2.2.2.2.1
      have cV2 : zCV _ _ := C2.2.2.2.2.2.2.2.2.1
      have g5 := zCv5 cV1 v0 v1
      have g6 := zCv6 cV2 v0 v1
      rw [ec, zlet_s, zLUi cV v0 v1 hv.1.1 (by omega), zar_s (zCv1 cV v0 v1) rfl (zCvL1 cV v0 v1) hv.1.1 (by omega) (by omega), zE_sub, zlet_s]
      rw [g5]
      have e23' : zup t1 20 (8 * v + t1 22 v) (t1 20 (8 * v + t1 22 v) - zdc t1 v) 23 v = t1 23 v := rfl
      rw [e23', zLUi cV1 v0 v1 (by omega) (by omega), zar_s (zCv1 cV1 v0 v1) rfl (zCvL1 cV1 v0 v1) (by omega) (by omega) (by omega), zE_add, zlet_s, g6]
      have e24' : zup (zup t1 20 (8 * v + t1 22 v) (t1 20 (8 * v + t1 22 v) - zdc t1 v)) 20 (8 * v + t1 23 v) (zup t1 20 (8 * v + t1 22 v) (t1 20 (8 * v + t1 22 v) - zdc t1 v) 20 (8 * v + t1 23 v) + zdc t1 v) 24 v = t1 24 v := rfl
      rw [e24', zE_add, zlet_s]
      refine ⟨_, rfl, by rw [if_neg c]; exact C3, q2.tr ((zfrC_i (by unfold zpc1; decide)).tr ((zfrC_i (by unfold zpc1; decide)).tr (zfrC_i (by unfold zpc1; decide))))⟩
  · intro n i hx i0 i1 ⟨q1, q2⟩
    have b := zdb_a hb hA hK v0 v1 i.toNat (by omega)
    have n3 : ¬ (3 : Int32) ≤ zE i := by rw [zE_3, zE_le (by omega) (by omega) (by omega) (by omega)]; omega
    refine Or.inr ?_
    show ∃ x', (zCl x' (zda t v (i + 1).toNat) ∧ zfrC h x') ∧ zm26_2 zm26_38 (n + 1) (some (9, v.toNat)) (zE i) hx = zm26_2 zm26_38 n (some (9, v.toNat)) (zE (i + 1)) x'
    rw [zda_i i0]
    generalize ht : zda t v i.toNat = t1 at *
    have e2 := b.1 2 (by decide) (by decide)
    have e9 := b.1 9 (by decide) (by decide)
    have e12 := b.1 12 (by decide) (by decide)
    have e13 := b.1 13 (by decide) (by decide)
    have hk := hK (3 * v + i) (by omega) (by omega)
    rw [← e2, ← e12, ← e13] at hk
    have cV : zCV hx t1 := q1.2.2.2.2.2.2.2.2.1
    have cK : zCK hx t1 := q1.2.2.2.2.2.2.2.2.2.1
    have p0 := zCk0 cK (k := 3 * v + i) (by omega) (by omega)
    have A : ∃ h1, zm26_2 zm26_38 (n + 1) (some (9, v.toNat)) (zE i) hx = zm26_23 (zm26_2 zm26_38 n) (some (9, v.toNat)) (zE i) (some (10, (3 * v + i).toNat)) h1 ∧ zCl h1 (zdaA t1 v (t1 12 (3 * v + i))) ∧ zfrC hx h1 := by
      rw [zm26_2, if_neg n3, zo_9, zLKa cV v0 v1 i0 i1, zo_10, p0]
      unfold zdaA
      by_cases c : t1 12 (3 * v + i) = -1
      · rw [if_pos c, if_pos (by rw [c, zrf_n])]
        exact ⟨hx, rfl, q1, zfrC.rf⟩
      · have s9 := (hA.2 (t1 12 (3 * v + i)) (by omega) (by rw [← e2]; exact hk.1.2)).2.2.2.2.2.2.1
        rw [← e9] at s9
        have cA : zCA hx t1 := q1.2.2.1
        have g7 := zCa7 cA (a := t1 12 (3 * v + i)) (by omega) hk.1.2
        rw [if_neg c, if_neg (by rw [zrf_z hk.1.1]; exact c), zrf_s (by omega), zo_0, g7, zLUi cV v0 v1 s9.1 (by omega), zar_s (zCv1 cV v0 v1) rfl (zCvL1 cV v0 v1) s9.1 (by omega) (by omega), zE_1, zE_add, zlet_s]
        exact ⟨_, rfl, zw_28 q1 v0 v1 s9.1 (by omega), zfrC_i (by unfold zpc1; decide)⟩
    obtain ⟨h1, A, C1, F1⟩ := A
    rw [A]
    unfold zdaS
    have f2 : zdaA t1 v (t1 12 (3 * v + i)) 2 = t1 2 := zdaA_j (by decide)
    have f9 : zdaA t1 v (t1 12 (3 * v + i)) 9 = t1 9 := zdaA_j (by decide)
    have f13 : zdaA t1 v (t1 12 (3 * v + i)) 13 = t1 13 := zdaA_j (by decide)
    generalize ht2 : zdaA t1 v (t1 12 (3 * v + i)) = t2 at *
    have cK1 : zCK h1 t2 := C1.2.2.2.2.2.2.2.2.2.1
    have cV1 : zCV h1 t2 := C1.2.2.2.2.2.2.2.2.1
    have p1 := zCk1 cK1 (k := 3 * v + i) (by omega) (by omega)
    rw [f13] at p1
    rw [zm26_23, zo_10, p1]
    unfold zdaA
    by_cases c : t1 13 (3 * v + i) = -1
    · rw [if_pos c, if_pos (by rw [c, zrf_n]), zm26_36, zlet_s, zE_1, zE_add]
      exact ⟨h1, ⟨C1, q2.tr F1⟩, rfl⟩
    · have s9 := (hA.2 (t1 13 (3 * v + i)) (by omega) (by rw [← e2]; exact hk.2.1.2)).2.2.2.2.2.2.1
      rw [← e9, ← f9] at s9
      have cA : zCA h1 t2 := C1.2.2.1
      have g7 := zCa7 cA (a := t1 13 (3 * v + i)) (by omega) (by rw [f2]; exact hk.2.1.2)
      rw [if_neg c, if_neg (by rw [zrf_z hk.2.1.1]; exact c), zrf_s (by omega), zo_9, zo_0, g7, zLUi cV1 v0 v1 s9.1 (by omega), zar_s (zCv1 cV1 v0 v1) rfl (zCvL1 cV1 v0 v1) s9.1 (by omega) (by omega), zE_1, zE_add, zlet_s, zm26_36, zlet_s, zE_1, zE_add]
      exact ⟨_, ⟨zw_28 C1 v0 v1 s9.1 (by omega), (q2.tr F1).tr (zfrC_i (by unfold zpc1; decide))⟩, rfl⟩
/-- all verticals -/
theorem zdb_x {t : zS} (hA : zWa t) (hK : zWk t) (hD : ∀ v, 0 ≤ v → v < 4 → (0 ≤ t 22 v ∧ t 22 v ≤ 7) ∧ -1 ≤ t 23 v ∧ t 23 v ≤ 7) (hB : ∀ x, 0 ≤ x → x < 32 → 0 ≤ t 20 x) (hC : ∀ v, 0 ≤ v → v < 4 → 0 ≤ t 24 v) : ∀ n : Nat, n ≤ 4 → zdb t (zdx t n) n 0
  | 0, _ => ⟨fun _ _ _ => rfl, fun x x0 x1 => by
      have := hB x x0 x1
      rw [if_neg (by omega), ite_self]
      exact ⟨this, Int.le_of_eq (Int.add_zero _).symm⟩, fun u u0 u1 => by
      have := hC u u0 u1
      rw [if_neg (by omega)]
      exact ⟨this, Int.le_of_eq (Int.add_zero _).symm⟩⟩
  | n + 1, hn => by
    have p := zdb_x hA hK hD hB hC n (by omega)
    exact zdb_m (zdb_a p hA hK (by omega) (by omega) 3 (Nat.le_refl _)) (hD n (by omega) (by omega)) (by omega) (by omega)

