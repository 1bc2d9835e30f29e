set_option maxRecDepth 16384
/-! A stop's loops: what it loses, what goes back. -/
def zfrC (h h' : zH) : Prop := zKp (fun k => ¬ zpc1 k) h h' ∧ zce h' = zce h ∧ zso h' = zso h
def zfrM (h h' : zH) : Prop := zKp (fun k => ¬ zpm1 k) h h' ∧ zce h' = zce h ∧ zso h' = zso h
theorem zfrC.rf {h : zH} : zfrC h h := ⟨zKp.rf, rfl, rfl⟩
theorem zfrM.rf {h : zH} : zfrM h h := ⟨zKp.rf, rfl, rfl⟩
theorem zfrC.tr {h h1 h2 : zH} (a : zfrC h h1) (b : zfrC h1 h2) : zfrC h h2 := ⟨a.1.tr b.1, b.2.1.trans a.2.1, b.2.2.trans a.2.2⟩
theorem zfrM.tr {h h1 h2 : zH} (a : zfrM h h1) (b : zfrM h1 h2) : zfrM h h2 := ⟨a.1.tr b.1, b.2.1.trans a.2.1, b.2.2.trans a.2.2⟩
theorem zfrM_i {h : zH} {k i j : Nat} {v : Int32} (hk : zpm1 k) : zfrM h (zsi h k i j v) := ⟨zKp_i (fun z => z hk), rfl, rfl⟩
theorem zfrC_i {h : zH} {k i j : Nat} {v : Int32} (hk : zpc1 k) : zfrC h (zsi h k i j v) := ⟨zKp_i (fun z => z hk), rfl, rfl⟩
def zlosS (t : zS) (a v g : Int) : zS := zstS' t (3 * v + g) (t 12 (3 * v + g)) (if t 13 (3 * v + g) = a then -1 else t 13 (3 * v + g)) (if t 13 (3 * v + g) = a then 0 else t 14 (3 * v + g))
def zlos (s : zS) (a v : Int) : Nat → zS
  | 0 => s
  | n + 1 => zlosS (zlos s a v n) a v n
theorem zlos_i {s : zS} {a v i : Int} (i0 : 0 ≤ i) : zlos s a v (i + 1).toNat = zlosS (zlos s a v i.toNat) a v i := by
  rw [show (i + 1).toNat = i.toNat + 1 by omega]
  show zlosS _ a v (i.toNat : Int) = _
  rw [Int.toNat_of_nonneg i0]
theorem zgb_i {s : zS} {r i : Int} (i0 : 0 ≤ i) : zgb s r (i + 1).toNat = zgbS (zgb s r i.toNat) r i := by
  rw [show (i + 1).toNat = i.toNat + 1 by omega]
  show zgbS _ r (i.toNat : Int) = _
  rw [Int.toNat_of_nonneg i0]
theorem zgc_i {s : zS} {r i : Int} (i0 : 0 ≤ i) : zgc s r (i + 1).toNat = zgc s r i.toNat + zcn1 (zgbQ (zgb s r i.toNat) r i ∧ ¬ zmr (zgb s r i.toNat) (zgb s r i.toNat 42 (3 * r + i)) (zgb s r i.toNat 31 r) i) := by
  rw [show (i + 1).toNat = i.toNat + 1 by omega]
  show zgc s r i.toNat + zcn1 (zgbQ (zgb s r i.toNat) r (i.toNat : Int) ∧ ¬ zmr (zgb s r i.toNat) (zgb s r i.toNat 42 (3 * r + (i.toNat : Int))) (zgb s r i.toNat 31 r) (i.toNat : Int)) = _
  rw [Int.toNat_of_nonneg i0]
theorem zst_id {s : zS} {k st cd sh : Int} (e1 : s 12 k = st) (e2 : s 13 k = cd) (e3 : s 14 k = sh) : zstS' s k st cd sh = s := by
  subst e1 e2 e3
  rw [zst_12]
  exact zup_id rfl
theorem zst_13 {s : zS} {k cd sh : Int} : zstS' s k (s 12 k) cd sh = zup (zup s 13 k cd) 14 k sh := by
  have e : zup s 12 k (s 12 k) = s := zup_id rfl
  show zup (zup (zup s 12 k (s 12 k)) 13 k cd) 14 k sh = _
  rw [e]
theorem zlosS_w {s t : zS} {a v g : Int} (w : zmw s t) (v0 : 0 ≤ v) (v1 : v < 4) (g0 : 0 ≤ g) (g1 : g < 3) (a0 : 0 ≤ a) (hn : 0 ≤ s 2 0) : zmw s (zlosS t a v g) := by
  have e2 := w.1 2 (by decide) (by decide) (by decide)
  have hk := w.2 (3 * v + g) (by omega) (by omega)
  rw [e2] at hk
  unfold zlosS
  by_cases c : t 13 (3 * v + g) = a
  · rw [if_pos c, if_pos c]
    exact w.st (zWk_st w.2 (by rw [e2]; exact hk.1) (by rw [e2]; omega) (by omega) ⟨fun _ => rfl, fun _ => rfl⟩ hk.2.2.2.2.1 (fun z => absurd rfl z))
  · rw [if_neg c, if_neg c]
    exact w.st (zWk_st w.2 (by rw [e2]; exact hk.1) (by rw [e2]; exact hk.2.1) hk.2.2.1 hk.2.2.2.1 hk.2.2.2.2.1 hk.2.2.2.2.2)
theorem zlos_w {s : zS} {a v : Int} (hK : zWk s) (v0 : 0 ≤ v) (v1 : v < 4) (a0 : 0 ≤ a) (hn : 0 ≤ s 2 0) : ∀ n : Nat, n ≤ 3 → zmw s (zlos s a v n) ∧ zlos s a v n 12 = s 12 ∧ ∀ u, ¬ (3 * v ≤ u ∧ u < 3 * v + n) → zlos s a v n 13 u = s 13 u ∧ zlos s a v n 14 u = s 14 u
  | 0, _ => ⟨⟨fun _ _ _ _ => rfl, hK⟩, rfl, fun _ _ => ⟨rfl, rfl⟩⟩
  | n + 1, h => by
    obtain ⟨p1, p2, p3⟩ := zlos_w hK v0 v1 a0 hn n (by omega)
    refine ⟨zlosS_w p1 v0 v1 (by omega) (by omega) a0 hn, ?_, fun u hu => ?_⟩
    · show zlosS (zlos s a v n) a v n 12 = _
      unfold zlosS
      rw [zst_13]
      exact p2
    · obtain ⟨q1, q2⟩ := p3 u (by omega)
      show zlosS (zlos s a v n) a v n 13 u = _ ∧ zlosS (zlos s a v n) a v n 14 u = _
      unfold zlosS
      rw [zst_13]
      exact ⟨(zup_j (by decide)).trans ((zup_a (by omega)).trans q1), (zup_a (by omega)).trans q2⟩
theorem zc58 {h : zH} {s : zS} {a v : Int} (hC : zClM h s s) (hA : zWa s) (hK : zWk s) (a0 : 0 ≤ a) (a1 : a < s 2 0) (hv : s 3 a = v) : ∃ h', zm58 (some (12, 0)) (some (0, a.toNat)) h = some (.inl (), h') ∧ zClM h' s (zlos s a v 3) ∧ zfrC h h' := by
  have v0 := (hA.2 a a0 a1).1
  rw [hv] at v0
  have hn := hA.1
  have cr : zCr h := hC.1.1
  have cV : zCV h s := hC.1.2.2.2.2.2.2.2.2.1
  have cA : zCA h s := hC.1.2.2.1
  rw [zm58, zo_12, zo_0, zCa1 cA a0 a1, hv, zLVa cr cV v0.1 v0.2, zE_0]
  refine zloop0 (W := fun n i hx => zm58_8 n (some (0, a.toNat)) (some (9, v.toNat)) (zE i) hx) (N := 3) (fun i hx => zClM hx s (zlos s a v i.toNat) ∧ zfrC h hx) (fun r => ∃ h', r = some (.inl (), h') ∧ zClM h' s (zlos s a v 3) ∧ zfrC h h') h ⟨hC, zfrC.rf⟩ (by omega) (by omega) ?_ ?_
  · intro n hx ⟨q1, q2⟩
    refine ⟨hx, ?_, q1, q2⟩
    rw [zm58_8, if_pos (by rw [zE_3]; exact Int32.le_refl _)]
  · intro n i hx i0 i1 ⟨q1, q2⟩
    obtain ⟨w, w12, wo⟩ := zlos_w (a := a) hK v0.1 v0.2 a0 hn.1 i.toNat (by omega)
    have hk := w.2 (3 * v + i) (by omega) (by omega)
    have cV : zCV hx (zlos s a v i.toNat) := q1.1.2.2.2.2.2.2.2.2.1
    have cK := q1.1.2.2.2.2.2.2.2.2.2.1
    have p0 : zr hx 10 (3 * v + i).toNat 0 = zrf 0 (zlos s a v i.toNat 12 (3 * v + i)) := by
      have := zCk0 cK (k := 3 * v + i) (by omega) (by omega)
      rwa [zmid_j (by decide)] at this
    have p1 : zr hx 10 (3 * v + i).toNat 1 = zrf 0 (zlos s a v i.toNat 13 (3 * v + i)) := by
      have := zCk1 cK (k := 3 * v + i) (by omega) (by omega)
      rwa [zmid_j (by decide)] at this
    have n3 : ¬ (3 : Int32) ≤ zE i := by rw [zE_3, zE_le (by omega) (by omega) (by omega) (by omega)]; omega
    have eq : zrf 0 (zlos s a v i.toNat 13 (3 * v + i)) = some (0, a.toNat) ↔ zlos s a v i.toNat 13 (3 * v + i) = a := by
      rw [← zrf_s (k := 0) a0, zrf_i hk.2.1.1 (by omega)]
    have w13 := (wo (3 * v + i) (by omega)).1
    refine Or.inr ?_
    show ∃ x', (zClM x' s (zlos s a v (i + 1).toNat) ∧ zfrC h x') ∧ zm58_8 (n + 1) (some (0, a.toNat)) (some (9, v.toNat)) (zE i) hx = zm58_8 n (some (0, a.toNat)) (some (9, v.toNat)) (zE (i + 1)) x'
    rw [zlos_i i0, zm58_8, if_neg n3, zo_9, zLKa cV v0.1 v0.2 i0 i1, zo_10, p1]
    unfold zlosS
    by_cases c : zlos s a v i.toNat 13 (3 * v + i) = a
    · obtain ⟨h', b1, b2, b3, b4, b5⟩ := zc29 (st := zlos s a v i.toNat 12 (3 * v + i)) (cd := -1) (sh := 0) q1 (by omega) (by omega) hk.1.1 hk.2.1.1 hk.2.2.1 hk.1.1 (by omega) (by omega) (fun _ => Or.inr (by rw [← w13, c]; omega)) (fun _ => Or.inr (Or.inl (by rw [← w13, c]; omega)))
      rw [zrf_n, ← zE_0] at b1
      rw [if_pos (eq.mpr c), p0, b1, zb_s, if_pos c, if_pos c]
      refine ⟨h', ⟨b2, q2.tr ⟨b3, b4, b5⟩⟩, ?_⟩
      rw [zm58_26, zlet_s, zE_1, zE_add]
    · rw [if_neg (fun z => c (eq.mp z)), if_neg c, if_neg c]
      refine ⟨hx, ⟨by rw [zst_id rfl rfl rfl]; exact q1, q2⟩, ?_⟩
      rw [zm58_26, zlet_s, zE_1, zE_add]
/-- what goes back: the class -/
theorem zc56_8 {h : zH} {s t0 : zS} {r v : Int} {k : zq → zq → Int32 → zH → zRs Int32} (hC : zClM h s t0) (hW : zWf s) (w : zmw s t0) (e12 : t0 12 = s 12) (r0 : 0 ≤ r) (r1 : r < s 30 0) (hv : s 3 (s 31 r) = v) :
    ∃ h', zm56_8 k zN0 (some (12, 0)) (some (5, r.toNat)) (zE 0) (zE 0) h = k (some (12, 0)) (some (5, r.toNat)) (zE (zgc t0 r 3)) h' ∧ zClM h' s (zgb t0 r 3) ∧ zfrC h h' := by
  obtain ⟨wA, wK, wC, wD, wP, wR, -⟩ := hW
  have z1 : ¬ zE 1 = zE 0 := by decide
  refine zloop0 (W := fun n i hx => zm56_8 k n (some (12, 0)) (some (5, r.toNat)) (zE (zgc t0 r i.toNat)) (zE i) hx) (N := 3) (fun i hx => zClM hx s (zgb t0 r i.toNat) ∧ zfrC h hx) (fun q => ∃ h', q = k (some (12, 0)) (some (5, r.toNat)) (zE (zgc t0 r 3)) h' ∧ zClM h' s (zgb t0 r 3) ∧ zfrC h h') h ⟨hC, zfrC.rf⟩ (by omega) (by omega) ?_ ?_
  · intro n hx ⟨q1, q2⟩
    refine ⟨hx, ?_, q1, q2⟩
    rw [zm56_8, if_pos (by rw [zE_3]; exact Int32.le_refl _)]
    rfl
  · intro n i hx i0 i1 ⟨q1, q2⟩
    obtain ⟨w', w13, w14, wo⟩ := zgb_w w wA wR r0 r1 hv i.toNat (by omega)
    have n3 : ¬ (3 : Int32) ≤ zE i := by rw [zE_3, zE_le (by omega) (by omega) (by omega) (by omega)]; omega
    have e3 := w'.1 3 (by decide) (by decide) (by decide)
    have e30 := w'.1 30 (by decide) (by decide) (by decide)
    have e31 := w'.1 31 (by decide) (by decide) (by decide)
    have tR := w'.R wR
    have r2 : r < zgb t0 r i.toNat 30 0 := by rw [e30]; exact r1
    have cR : zCR hx (zgb t0 r i.toNat) := q1.1.2.2.2.2.1
    have ht := ((tR.2.2 r r0 r2).2.2.2.2.2.2.2.2.2.2 i i0 i1).1
    refine Or.inr ?_
    show ∃ x', (zClM x' s (zgb t0 r (i + 1).toNat) ∧ zfrC h x') ∧ zm56_8 k (n + 1) (some (12, 0)) (some (5, r.toNat)) (zE (zgc t0 r i.toNat)) (zE i) hx = zm56_8 k n (some (12, 0)) (some (5, r.toNat)) (zE (zgc t0 r (i + 1).toNat)) (zE (i + 1)) x'
    rw [zgb_i i0, zgc_i i0, zm56_8, if_neg n3, zo_5, zrb_s (zCr9_ cR r0 r2) rfl (zCrL0 cR r0 r2) i0 i1 (by omega) (zCrS0 cR r0 r2 i i0 i1)]
    by_cases c : zgb t0 r i.toNat 41 (3 * r + i) = 1
    · obtain ⟨b, h', b1, b2, b3, b4⟩ := zc57 (g := i) q1 (w'.A wA) w'.2 (w'.C wC) (w'.D wD) tR r0 r2 i0 i1 rfl (v := v) (by rw [e3, e31]; exact hv) rfl c (by rw [wo _ (by omega), e12])
      rw [c, zE_0, if_neg z1, zo_12, b2, zb_s]
      refine ⟨h', ⟨b3, q2.tr b4⟩, ?_⟩
      rcases b1 with ⟨rfl, b1⟩ | ⟨rfl, b1⟩
      · rw [if_neg z1, zm56_22, zlet_s, zE_1, zE_add, zcn1_f b1, Int.add_zero]
      · rw [if_pos rfl, zlet_s, zm56_22, zlet_s, zE_1, zE_add, zE_add, zcn1_t (Classical.not_not.mp b1)]
    · have c0 : zgb t0 r i.toNat 41 (3 * r + i) = 0 := by omega
      have nq : ¬ zgbQ (zgb t0 r i.toNat) r i := fun z => c z.1
      rw [c0, zE_0, if_pos rfl]
      refine ⟨hx, ⟨?_, q2⟩, ?_⟩
      · unfold zgbS
        rw [zitp_f (fun z => nq z.1), zup_id rfl]
        exact q1
      · rw [zm56_22, zlet_s, zE_1, zE_add, zcn1_f (fun z => nq z.1), Int.add_zero]
