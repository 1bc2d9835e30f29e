set_option maxRecDepth 16384
/-! step: both sides. -/
def zstO (k o w : Int) : Prop := (0 ≤ k ∧ k ≤ 6) ∧ (k = 1 → 0 ≤ o ∧ o ≤ 1000) ∧ (k = 3 → 0 ≤ o ∧ o ≤ 5) ∧ (k ≠ 1 → k ≠ 3 → k ≠ 5 → 0 ≤ o ∧ o ≤ 2) ∧ (k = 0 → 1 ≤ w ∧ w ≤ 100)
theorem zc51 {h : zH} {k o w : Int} (k1 : -2147483648 ≤ k) (k2 : k < 2147483648) (o1 : -2147483648 ≤ o) (o2 : o < 2147483648) (w1 : -2147483648 ≤ w) (w2 : w < 2147483648) : (zstO k o w → zm51 (zE k) (zE o) (zE w) h = some (.inl (), h)) ∧ (¬ zstO k o w → zm51 (zE k) (zE o) (zE w) h = some (.inr 0, zro h 1 6)) := by
  have d : ∀ a b : Int, a = b → -2147483648 ≤ a → a < 2147483648 → (zE a = zE b) = True := fun a b e _ _ => eq_true (congrArg zE e)
  by_cases e : k < 0 ∨ 6 < k
  · refine ⟨fun z => by have := z.1; omega, fun _ => ?_⟩
    rw [zm51, zE_to k1 k2, if_pos e]
  · have hk : k = 0 ∨ k = 1 ∨ k = 2 ∨ k = 3 ∨ k = 4 ∨ k = 5 ∨ k = 6 := by omega
    have c3 : ∀ k', (k' = k) → k' ≠ 0 → k' ≠ 1 → k' ≠ 3 → k' ≠ 5 → (zstO k o w ↔ 0 ≤ o ∧ o ≤ 2) := fun k' e0 e1 e2 e3 e4 => ⟨fun z => z.2.2.2.1 (by omega) (by omega) (by omega), fun z => ⟨by omega, fun _ => by omega, fun _ => by omega, fun _ _ _ => z, fun _ => by omega⟩⟩
    rcases hk with rfl | rfl | rfl | rfl | rfl | rfl | rfl
    · by_cases q1 : 0 ≤ o ∧ o ≤ 2
      · by_cases q2 : 1 ≤ w ∧ w ≤ 100
        · refine ⟨fun _ => ?_, fun z => absurd ⟨by omega, fun _ => by omega, fun _ => by omega, fun _ _ _ => q1, fun _ => q2⟩ z⟩
          simp (discharger := omega) only [zm51, zE_to, e, if_false, zE_0, zE_1, zE_2, zE_3, zE_4, zE_5, zE_6, zE_7, zE_8, zE_9, zE_10, zE_11, zE_12, zE_13, zE_14, zE_neg, zE_100, if_true, zc131, if_pos q1, if_pos q2, ↓zb_s]
        · refine ⟨fun z => absurd (z.2.2.2.2 rfl) q2, fun _ => ?_⟩
          simp (discharger := omega) only [zm51, zE_to, e, if_false, zE_0, zE_1, zE_2, zE_3, zE_4, zE_5, zE_6, zE_7, zE_8, zE_9, zE_10, zE_11, zE_12, zE_13, zE_14, zE_neg, zE_100, if_true, zc131, if_pos q1, if_neg q2, ↓zb_s, ↓zb_x]
      · refine ⟨fun z => absurd (z.2.2.2.1 (by omega) (by omega) (by omega)) q1, fun _ => ?_⟩
        simp (discharger := omega) only [zm51, zE_to, e, if_false, zE_0, zE_1, zE_2, zE_3, zE_4, zE_5, zE_6, zE_7, zE_8, zE_9, zE_10, zE_11, zE_12, zE_13, zE_14, zE_neg, zE_100, if_true, zc131, if_neg q1, ↓zb_x]
    · by_cases q1 : 0 ≤ o ∧ o ≤ 1000
      · refine ⟨fun _ => ?_, fun z => absurd ⟨by omega, fun _ => q1, fun _ => by omega, fun _ _ _ => by omega, fun _ => by omega⟩ z⟩
        simp (discharger := omega) only [zm51, zE_to, zE_inj, e, if_false, zE_0, zE_1, zE_2, zE_3, zE_4, zE_5, zE_6, zE_7, zE_8, zE_9, zE_10, zE_11, zE_12, zE_13, zE_14, zE_neg, zE_1000, if_true, zc131, if_pos q1, ↓zb_s]
        rfl
      · refine ⟨fun z => absurd (z.2.1 rfl) q1, fun _ => ?_⟩
        simp (discharger := omega) only [zm51, zE_to, zE_inj, e, if_false, zE_0, zE_1, zE_2, zE_3, zE_4, zE_5, zE_6, zE_7, zE_8, zE_9, zE_10, zE_11, zE_12, zE_13, zE_14, zE_neg, zE_1000, if_true, zc131, if_neg q1, ↓zb_x]
        rfl
    · by_cases q1 : 0 ≤ o ∧ o ≤ 2
      · refine ⟨fun _ => ?_, fun z => absurd ((c3 _ rfl (by decide) (by decide) (by decide) (by decide)).mpr q1) z⟩
        simp (discharger := omega) only [zm51, zE_to, zE_inj, e, if_false, zE_0, zE_1, zE_2, zE_3, zE_4, zE_5, zE_6, zE_7, zE_8, zE_9, zE_10, zE_11, zE_12, zE_13, zE_14, zE_neg, if_true, zc131, if_pos q1, ↓zb_s]
        rfl
      · refine ⟨fun z => absurd ((c3 _ rfl (by decide) (by decide) (by decide) (by decide)).mp z) q1, fun _ => ?_⟩
        simp (discharger := omega) only [zm51, zE_to, zE_inj, e, if_false, zE_0, zE_1, zE_2, zE_3, zE_4, zE_5, zE_6, zE_7, zE_8, zE_9, zE_10, zE_11, zE_12, zE_13, zE_14, zE_neg, if_true, zc131, if_neg q1, ↓zb_x]
        rfl
    · by_cases q1 : 0 ≤ o ∧ o ≤ 5
      · refine ⟨fun _ => ?_, fun z => absurd ⟨by omega, fun _ => by omega, fun _ => q1, fun _ _ _ => by omega, fun _ => by omega⟩ z⟩
        simp (discharger := omega) only [zm51, zE_to, zE_inj, e, if_false, zE_0, zE_1, zE_2, zE_3, zE_4, zE_5, zE_6, zE_7, zE_8, zE_9, zE_10, zE_11, zE_12, zE_13, zE_14, zE_neg, if_true, zc131, if_pos q1, ↓zb_s]
        rfl
      · refine ⟨fun z => absurd (z.2.2.1 rfl) q1, fun _ => ?_⟩
        simp (discharger := omega) only [zm51, zE_to, zE_inj, e, if_false, zE_0, zE_1, zE_2, zE_3, zE_4, zE_5, zE_6, zE_7, zE_8, zE_9, zE_10, zE_11, zE_12, zE_13, zE_14, zE_neg, if_true, zc131, if_neg q1, ↓zb_x]
        rfl
    · by_cases q1 : 0 ≤ o ∧ o ≤ 2
      · refine ⟨fun _ => ?_, fun z => absurd ((c3 _ rfl (by decide) (by decide) (by decide) (by decide)).mpr q1) z⟩
        simp (discharger := omega) only [zm51, zE_to, zE_inj, e, if_false, zE_0, zE_1, zE_2, zE_3, zE_4, zE_5, zE_6, zE_7, zE_8, zE_9, zE_10, zE_11, zE_12, zE_13, zE_14, zE_neg, if_true, zc131, if_pos q1, ↓zb_s]
        rfl
      · refine ⟨fun z => absurd ((c3 _ rfl (by decide) (by decide) (by decide) (by decide)).mp z) q1, fun _ => ?_⟩
        simp (discharger := omega) only [zm51, zE_to, zE_inj, e, if_false, zE_0, zE_1, zE_2, zE_3, zE_4, zE_5, zE_6, zE_7, zE_8, zE_9, zE_10, zE_11, zE_12, zE_13, zE_14, zE_neg, if_true, zc131, if_neg q1, ↓zb_x]
        rfl
    · refine ⟨fun _ => ?_, fun z => absurd ⟨by omega, fun _ => by omega, fun _ => by omega, fun _ _ q => absurd rfl q, fun _ => by omega⟩ z⟩
      simp (discharger := omega) only [zm51, zE_to, zE_inj, e, if_false, zE_0, zE_1, zE_2, zE_3, zE_4, zE_5, zE_6, zE_7, zE_8, zE_9, zE_10, zE_11, zE_12, zE_13, zE_14, zE_neg, if_true]
      rfl
    · by_cases q1 : 0 ≤ o ∧ o ≤ 2
      · refine ⟨fun _ => ?_, fun z => absurd ((c3 _ rfl (by decide) (by decide) (by decide) (by decide)).mpr q1) z⟩
        simp (discharger := omega) only [zm51, zE_to, zE_inj, e, if_false, zE_0, zE_1, zE_2, zE_3, zE_4, zE_5, zE_6, zE_7, zE_8, zE_9, zE_10, zE_11, zE_12, zE_13, zE_14, zE_neg, if_true, zc131, if_pos q1, ↓zb_s]
        rfl
      · refine ⟨fun z => absurd ((c3 _ rfl (by decide) (by decide) (by decide) (by decide)).mp z) q1, fun _ => ?_⟩
        simp (discharger := omega) only [zm51, zE_to, zE_inj, e, if_false, zE_0, zE_1, zE_2, zE_3, zE_4, zE_5, zE_6, zE_7, zE_8, zE_9, zE_10, zE_11, zE_12, zE_13, zE_14, zE_neg, if_true, zc131, if_neg q1, ↓zb_x]
        rfl
/-- whether a release is by the program -/
def zstU (s : zS) (p r : Int) : Prop := s 32 r = p
def zstS (s : zS) (p k o w : Int) : zS := zup (zup (zup (zup s 27 (10 * p + s 26 p) k) 28 (10 * p + s 26 p) o) 29 (10 * p + s 26 p) w) 26 p (s 26 p + 1)
theorem zif_u {s : zS} {j : Nat} {a v u : Int} : zup s j a v j u = if u = a then v else s j u := by
  by_cases e : u = a
  · rw [e, zup_s, if_pos rfl]
  · rw [zup_a e, if_neg e]
theorem zstS_26 {s : zS} {p k o w u : Int} : zstS s p k o w 26 u = if u = p then s 26 p + 1 else s 26 u := by
  show zup s 26 p (s 26 p + 1) 26 u = _
  exact zif_u
theorem zstS_27 {s : zS} {p k o w u : Int} : zstS s p k o w 27 u = if u = 10 * p + s 26 p then k else s 27 u := by
  show zup s 27 (10 * p + s 26 p) k 27 u = _
  exact zif_u
theorem zstS_28 {s : zS} {p k o w u : Int} : zstS s p k o w 28 u = if u = 10 * p + s 26 p then o else s 28 u := by
  show zup s 28 (10 * p + s 26 p) o 28 u = _
  exact zif_u
theorem zstS_29 {s : zS} {p k o w u : Int} : zstS s p k o w 29 u = if u = 10 * p + s 26 p then w else s 29 u := by
  show zup s 29 (10 * p + s 26 p) w 29 u = _
  exact zif_u
def zstH (h : zH) (p n k o w : Int) : zH := zsi (zsi (zsi (zsi h 22 p.toNat n.toNat (zE k)) 23 p.toNat n.toNat (zE o)) 24 p.toNat n.toNat (zE w)) 4 p.toNat 3 (zE (n + 1))
theorem zstH_k {h : zH} {p n k o w : Int} (P : Nat → Prop) (p1 : ¬ P 4) (p2 : ¬ P 22) (p3 : ¬ P 23) (p4 : ¬ P 24) : zKp P h (zstH h p n k o w) := (((zKp_i p2).tr (zKp_i p3)).tr (zKp_i p4)).tr (zKp_i p1)
theorem zstH_C {h : zH} {s : zS} {p k o w : Int} (hC : zCl h s) (hW : zWf s) (p1 : 0 ≤ p) (p2 : p < s 25 0) (h10 : s 26 p < 10) : zCl (zstH h p (s 26 p) k o w) (zstS s p k o w) := by
  obtain ⟨wA, wK, wC, wD, wP, wR, wZ, wT, wG, wE, wM, wX⟩ := hW
  have h26 := wP.2.1
  obtain ⟨c1, c2, c3, c4, c5, c6, c7, c8, c9, c10, c11, c12, c13, c14⟩ := hC
  refine ⟨c1, c2, c3, ⟨c4.1, fun u u0 u1 => ?_⟩, c5, c6, c7, c8, c9, c10, c11, c12, zCM_w c13 (zstH_k _ (by decide) (by decide) (by decide) (by decide)) rfl rfl rfl rfl, c14⟩
  obtain ⟨q0, q1, q2, q3, q4, q5, q6, q7, q8, q9, q10, q11⟩ := c4.2 u u0 u1
  have hu := h26 u u0 u1
  have hp := h26 p p1 p2
  refine ⟨q0, q1, q2, q3, q4, q5, q6, ?_, ?_, fun x x0 x1 => ?_, fun x x0 x1 => ?_, fun x x0 x1 => ?_⟩
  · rw [zstS_26]
    show zi (zstH h p (s 26 p) k o w) 4 u.toNat 3 = _
    by_cases e : u = p
    · subst e
      rw [if_pos rfl]
      exact zi_s
    · rw [if_neg e]
      exact (zi_i (by omega)).trans q7
  · show zi (zstH h p (s 26 p) k o w) 4 u.toNat 4 = _
    exact (zi_j (by decide)).trans q8
  · rw [zstS_26] at x1
    rw [zstS_27]
    show zi (zsi h 22 p.toNat (s 26 p).toNat (zE k)) 22 u.toNat x.toNat = _
    by_cases e : u = p
    · subst e
      rw [if_pos rfl] at x1
      by_cases e2 : x = s 26 u
      · subst e2
        rw [if_pos rfl]
        exact zi_s
      · rw [if_neg (by omega)]
        exact (zi_j (by omega)).trans (q9 x x0 (by omega))
    · rw [if_neg e] at x1
      rw [if_neg (by omega)]
      exact (zi_i (by omega)).trans (q9 x x0 x1)
  · rw [zstS_26] at x1
    rw [zstS_28]
    show zi (zsi (zsi h 22 p.toNat (s 26 p).toNat (zE k)) 23 p.toNat (s 26 p).toNat (zE o)) 23 u.toNat x.toNat = _
    by_cases e : u = p
    · subst e
      rw [if_pos rfl] at x1
      by_cases e2 : x = s 26 u
      · subst e2
        rw [if_pos rfl]
        exact zi_s
      · rw [if_neg (by omega)]
        exact (zi_j (by omega)).trans (q10 x x0 (by omega))
    · rw [if_neg e] at x1
      rw [if_neg (by omega)]
      exact (zi_i (by omega)).trans (q10 x x0 x1)
  · rw [zstS_26] at x1
    rw [zstS_29]
    show zi (zsi (zsi (zsi h 22 p.toNat (s 26 p).toNat (zE k)) 23 p.toNat (s 26 p).toNat (zE o)) 24 p.toNat (s 26 p).toNat (zE w)) 24 u.toNat x.toNat = _
    by_cases e : u = p
    · subst e
      rw [if_pos rfl] at x1
      by_cases e2 : x = s 26 u
      · subst e2
        rw [if_pos rfl]
        exact zi_s
      · rw [if_neg (by omega)]
        exact (zi_j (by omega)).trans (q11 x x0 (by omega))
    · rw [if_neg e] at x1
      rw [if_neg (by omega)]
      exact (zi_i (by omega)).trans (q11 x x0 x1)
theorem zstS_W {s : zS} {p k o w : Int} (hW : zWf s) (p1 : 0 ≤ p) (p2 : p < s 25 0) (ho : zstO k o w) (o1 : -2147483648 ≤ o) (o2 : o < 2147483648) (w1 : -2147483648 ≤ w) (w2 : w < 2147483648) (h10 : s 26 p < 10) (hx : ¬ zxs 0 (s 30 0) (zstU s p)) : zWf (zstS s p k o w) := by
  obtain ⟨wA, wK, wC, wD, wP, wR, wZ, wT, wG, wE, wM, wX⟩ := hW
  have hn := wP.1
  have h26 := wP.2.1
  have hp := h26 p p1 p2
  have hr : ∀ r, 0 ≤ r → r < s 30 0 → zstS s p k o w 26 (s 32 r) = s 26 (s 32 r) := fun r r0 r1 => by
    rw [zstS_26, if_neg (show ¬ s 32 r = p from fun z => hx ⟨r, r0, r1, z⟩)]
  refine ⟨wA, wK, wC, wD, ⟨wP.1, fun u u0 u1 => ?_, fun x => ?_, fun u x u0 u1 x0 x1 => ?_⟩, ⟨wR.1, wR.2.1, fun r r0 r1 => ?_⟩, wZ, wT, wG, wE, wM, wX.1, wX.2.1, wX.2.2.1, wX.2.2.2.1, fun u u0 u1 => ?_, wX.2.2.2.2.2⟩
  · rw [zstS_26]
    by_cases e : u = p
    · rw [if_pos e]; omega
    · rw [if_neg e]; exact h26 u u0 u1
  · rw [zstS_28, zstS_29]
    have := wP.2.2.1 x
    by_cases e : x = 10 * p + s 26 p
    · rw [if_pos e, if_pos e]; omega
    · rw [if_neg e, if_neg e]; exact this
  · rw [zstS_26] at x1
    rw [zstS_27, zstS_28, zstS_29]
    by_cases e : 10 * u + x = 10 * p + s 26 p
    · simp only [if_pos e]
      obtain ⟨a1, a2, a3, a4, a5⟩ := ho
      refine ⟨a1, fun z => ?_, fun z => (a3 z).2, fun z1 z2 z3 => (a4 z1 z2 z3).2, a5⟩
      by_cases e1 : k = 1
      · exact a2 e1
      · by_cases e3 : k = 3
        · have := a3 e3; omega
        · have := a4 e1 e3 z; omega
    · simp only [if_neg e]
      have hu := h26 u u0 u1
      refine wP.2.2.2 u x u0 u1 x0 ?_
      by_cases e2 : u = p
      · rw [if_pos e2] at x1
        subst e2
        omega
      · rwa [if_neg e2] at x1
  · have q := wR.2.2 r r0 r1
    show (0 ≤ s 31 r ∧ s 31 r < s 2 0) ∧ (0 ≤ s 32 r ∧ s 32 r < s 25 0) ∧ (0 ≤ s 33 r ∧ s 33 r ≤ 4) ∧ (0 ≤ s 34 r ∧ s 34 r ≤ zstS s p k o w 26 (s 32 r)) ∧ (s 33 r ≤ 1 → s 34 r < zstS s p k o w 26 (s 32 r)) ∧ _
    rw [hr r r0 r1]
    exact q
  · rw [zstS_26]
    have u0 : s 25 0 ≤ u := u0
    rw [if_neg (by omega)]
    exact wX.2.2.2.2.1 u u0 u1
theorem zc8 {h : zH} {s : zS} {p k o w : Int} (hP : zCP h s) (hW : zWp s) (p1 : 0 ≤ p) (p2 : p < s 25 0) (h10 : s 26 p < 10) : zm8 (some (4, p.toNat)) (zE k) (zE o) (zE w) h = some (.inl (), zstH h p (s 26 p) k o w) := by
  have h26 := hW.2.1 p p1 p2
  have f1 := zCp3 hP p1 p2
  rw [zm8, zo_4, f1, zar_s (zCp0 hP p1 p2) rfl (zCpL0 hP p1 p2) h26.1 (by omega) (by omega), zlet_s]
  rw [show zi (zsi h 22 p.toNat (s 26 p).toNat (zE k)) 4 p.toNat 3 = zE (s 26 p) from f1]
  rw [zar_s (show zr (zsi h 22 p.toNat (s 26 p).toNat (zE k)) 4 p.toNat 1 = _ from zCp1 hP p1 p2) rfl (show zln (zsi h 22 p.toNat (s 26 p).toNat (zE k)) 23 p.toNat = 10 from zCpL1 hP p1 p2) h26.1 (by omega) (by omega), zlet_s]
  rw [show zi (zsi (zsi h 22 p.toNat (s 26 p).toNat (zE k)) 23 p.toNat (s 26 p).toNat (zE o)) 4 p.toNat 3 = zE (s 26 p) from f1]
  rw [zar_s (show zr (zsi (zsi h 22 p.toNat (s 26 p).toNat (zE k)) 23 p.toNat (s 26 p).toNat (zE o)) 4 p.toNat 2 = _ from zCp2 hP p1 p2) rfl (show zln (zsi (zsi h 22 p.toNat (s 26 p).toNat (zE k)) 23 p.toNat (s 26 p).toNat (zE o)) 24 p.toNat = 10 from zCpL2 hP p1 p2) h26.1 (by omega) (by omega), zlet_s, zlet_s]
  rw [show zi (zsi (zsi (zsi h 22 p.toNat (s 26 p).toNat (zE k)) 23 p.toNat (s 26 p).toNat (zE o)) 24 p.toNat (s 26 p).toNat (zE w)) 4 p.toNat 3 = zE (s 26 p) from f1, zE_1, zE_add]
  rfl
