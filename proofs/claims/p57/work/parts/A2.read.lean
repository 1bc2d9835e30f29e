set_option maxRecDepth 16384
/-! What the class's reading methods answer. -/
theorem zk_isLive {h : zH} {s : zS} {a : Int} (hC : zCl h s) (hW : zWf s) (a0 : 0 ≤ a) (a1 : a < s 2 0) : ∃ b, zbo b (zlv s a (-1)) ∧ zm43 (some (12, 0)) (zE a) h = some (.inl (zE b), h) := by
  obtain ⟨cr, cs, cA, cP, cR, cZ, cT, cE, cV, cK, cG, cX, cM, cN⟩ := hC
  obtain ⟨wA, wK, wC, wD, wP, wR, wZ, wT, wG, wE, wM, wX⟩ := hW
  have hn := wA.1
  have c : 0 ≤ a ∧ a < s 2 0 := ⟨a0, a1⟩
  have hp := zus_p wA wK wC a0 a1
  have hu := zus_r s a
  by_cases l : zlv s a (-1)
  · have h3 : ¬ zus s a ≤ 0 := Int.not_le.mpr (hp.mpr l)
    refine ⟨1, zbo_1 l, ?_⟩
    simp (discharger := omega) only [zm43, ↓zo_12, ↓zLAz cr cA, zc130, if_pos c, ↓zb_s, ↓zLAg cr cA, ↓zo_0, zCa10 cA, zE_0, zE_1, zE_2, zE_3, zE_4, zE_5, zE_6, zE_7, zE_8, zE_9, zE_10, zE_11, zE_12, zE_13, zE_14, zE_neg, zE_le, h3, if_false]
  · have h3 : zus s a ≤ 0 := Int.not_lt.mp fun z => l (hp.mp z)
    refine ⟨0, zbo_0 l, ?_⟩
    simp (discharger := omega) only [zm43, ↓zo_12, ↓zLAz cr cA, zc130, if_pos c, ↓zb_s, ↓zLAg cr cA, ↓zo_0, zCa10 cA, zE_0, zE_1, zE_2, zE_3, zE_4, zE_5, zE_6, zE_7, zE_8, zE_9, zE_10, zE_11, zE_12, zE_13, zE_14, zE_neg, zE_le, h3, if_true]
theorem zk_mayGo {h : zH} {s : zS} {a : Int} (hC : zCl h s) (hW : zWf s) (c : 0 ≤ a ∧ a < s 2 0) : ∃ v, zmyV s a v ∧ zm44 (some (12, 0)) (zE a) h = some (.inl (zE v), h) := by
  obtain ⟨cr, cs, cA, -, -, -, -, -, cV, -⟩ := hC
  obtain ⟨wA, wK, wC, wD, -⟩ := hW
  have hn := wA.1
  obtain ⟨v, v1, v2⟩ := zc45 cr cA cV wA wK wC wD c.1 c.2
  refine ⟨v, v1, ?_⟩
  simp (discharger := omega) only [zm44, ↓zo_12, ↓zLAz cr cA, zc130, if_pos c, ↓zb_s, ↓zLAg cr cA, ↓zo_0, v2]
theorem zk_state {h : zH} {s : zS} {a : Int} (hC : zCl h s) (hW : zWf s) (c : 0 ≤ a ∧ a < s 30 0) : zm61 (some (12, 0)) (zE a) h = some (.inl (zE (s 33 a)), h) := by
  obtain ⟨cr, cs, cA, cP, cR, cZ, cT, cE, cV, cK, cG, cX, cM, cN⟩ := hC
  obtain ⟨wA, wK, wC, wD, wP, wR, wZ, wT, wG, wE, wM, wX⟩ := hW
  have hnR := wR.1
  simp (discharger := omega) only [zm61, ↓zo_12, ↓zLRz cr cR, zc130, if_pos c, ↓zb_s, ↓zLRg cr cR, ↓zo_5, zCr2_ cR]
theorem zk_at {h : zH} {s : zS} {a : Int} (hC : zCl h s) (hW : zWf s) (c : 0 ≤ a ∧ a < s 30 0) : zm62 (some (12, 0)) (zE a) h = some (.inl (zE (s 34 a)), h) := by
  obtain ⟨cr, cs, cA, cP, cR, cZ, cT, cE, cV, cK, cG, cX, cM, cN⟩ := hC
  obtain ⟨wA, wK, wC, wD, wP, wR, wZ, wT, wG, wE, wM, wX⟩ := hW
  have hnR := wR.1
  simp (discharger := omega) only [zm62, ↓zo_12, ↓zLRz cr cR, zc130, if_pos c, ↓zb_s, ↓zLRg cr cR, ↓zo_5, zCr3_ cR]
/-- why: 14 of one that has ended; else 13 where the controller is dead, and from 0 to 12 where it isn't -/
theorem zk_why {h : zH} {s : zS} {r : Int} (hC : zCl h s) (hW : zWf s) (q : 0 ≤ r ∧ r < s 30 0) : ∃ v, zm63 (some (12, 0)) (zE r) h = some (.inl (zE v), h) ∧ ((1 < s 33 r ∧ v = 14) ∨ (¬ 1 < s 33 r ∧ s 43 0 ≠ 0 ∧ v = 13) ∨ (¬ 1 < s 33 r ∧ s 43 0 = 0 ∧ 0 ≤ v ∧ v ≤ 12)) := by
  have z1 : ¬ zE 1 = zE 0 := by decide
  have cr := hC.1
  have cs := hC.2.1
  have cR := hC.2.2.2.2.1
  have wR := hW.2.2.2.2.2.1
  have wX := hW.2.2.2.2.2.2.2.2.2.2.2
  have hn := wR.1
  obtain ⟨b, b1, b2⟩ := zc10 cR wR q.1 q.2
  have h33 := (wR.2.2 r q.1 q.2).2.2.1
  rcases b1 with ⟨rfl, b1⟩ | ⟨rfl, b1⟩
  · refine ⟨14, ?_, Or.inl ⟨b1, rfl⟩⟩
    simp (discharger := omega) only [zm63, ↓zo_12, ↓zLRz cr cR, zc130, if_pos q, ↓zb_s, ↓zLRg cr cR, ↓zo_5, b2, zE_0, zE_1, zE_2, zE_3, zE_4, zE_5, zE_6, zE_7, zE_8, zE_9, zE_10, zE_11, zE_12, zE_13, zE_14, zE_neg, z1, if_false]
  · have h43 := wX.1
    by_cases e1 : s 43 0 = 0
    · by_cases e2 : s 33 r = 1
      · refine ⟨1, ?_, Or.inr (Or.inr ⟨b1, e1, by omega, by omega⟩)⟩
        simp (discharger := omega) only [zm63, ↓zo_12, ↓zLRz cr cR, zc130, if_pos q, ↓zb_s, ↓zLRg cr cR, ↓zo_5, b2, zE_0, zE_1, zE_2, zE_3, zE_4, zE_5, zE_6, zE_7, zE_8, zE_9, zE_10, zE_11, zE_12, zE_13, zE_14, zE_neg, if_true, zCs13 cs, e1, zCr2_ cR, e2]
      · have e64 := zc64 hC hW q.1 q.2 (show s 33 r ≤ 1 by omega)
        have hr := zrsn_r (s := s) (r := r)
        refine ⟨zrsn s r, ?_, Or.inr (Or.inr ⟨b1, e1, hr.1, hr.2⟩)⟩
        simp (discharger := omega) only [zm63, ↓zo_12, ↓zLRz cr cR, zc130, if_pos q, ↓zb_s, ↓zLRg cr cR, ↓zo_5, b2, zE_0, zE_1, zE_2, zE_3, zE_4, zE_5, zE_6, zE_7, zE_8, zE_9, zE_10, zE_11, zE_12, zE_13, zE_14, zE_neg, if_true, zCs13 cs, e1, zCr2_ cR, zE_inj, e2, if_false, e64]
    · refine ⟨13, ?_, Or.inr (Or.inl ⟨b1, e1, rfl⟩)⟩
      simp (discharger := omega) only [zm63, ↓zo_12, ↓zLRz cr cR, zc130, if_pos q, ↓zb_s, ↓zLRg cr cR, ↓zo_5, b2, zE_0, zE_1, zE_2, zE_3, zE_4, zE_5, zE_6, zE_7, zE_8, zE_9, zE_10, zE_11, zE_12, zE_13, zE_14, zE_neg, if_true, zCs13 cs, zE_inj, e1, if_false]
theorem zk_stable {h : zH} {s : zS} {a b : Int} (hC : zCl h s) (hW : zWf s) (c : (0 ≤ a ∧ a ≤ 3) ∧ 0 ≤ b ∧ b ≤ 2) : zm85 (some (12, 0)) (zE a) (zE b) h = some (.inl (zE (s 12 (3 * a + b))), h) := by
  obtain ⟨cr, cs, cA, cP, cR, cZ, cT, cE, cV, cK, cG, cX, cM, cN⟩ := hC
  obtain ⟨wA, wK, wC, wD, wP, wR, wZ, wT, wG, wE, wM, wX⟩ := hW
  have hnA := wA.1
  obtain ⟨p1, p2⟩ := zc132 (h := h) (a := a) (b := b) cr cV (by omega) (by omega) (by omega) (by omega)
  obtain ⟨k1, k2, k3, -⟩ := wK (3 * a + b) (by omega) (by omega)
  simp (discharger := omega) only [zm85, ↓zo_12, p1 c, ↓zb_s, ↓zo_10, zCk0 cK, zc134 cA]
theorem zk_candidate {h : zH} {s : zS} {a b : Int} (hC : zCl h s) (hW : zWf s) (c : (0 ≤ a ∧ a ≤ 3) ∧ 0 ≤ b ∧ b ≤ 2) : zm86 (some (12, 0)) (zE a) (zE b) h = some (.inl (zE (s 13 (3 * a + b))), h) := by
  obtain ⟨cr, cs, cA, cP, cR, cZ, cT, cE, cV, cK, cG, cX, cM, cN⟩ := hC
  obtain ⟨wA, wK, wC, wD, wP, wR, wZ, wT, wG, wE, wM, wX⟩ := hW
  have hnA := wA.1
  obtain ⟨p1, p2⟩ := zc132 (h := h) (a := a) (b := b) cr cV (by omega) (by omega) (by omega) (by omega)
  obtain ⟨k1, k2, k3, -⟩ := wK (3 * a + b) (by omega) (by omega)
  simp (discharger := omega) only [zm86, ↓zo_12, p1 c, ↓zb_s, ↓zo_10, zCk1 cK, zc134 cA]
theorem zk_share {h : zH} {s : zS} {a b : Int} (hC : zCl h s) (hW : zWf s) (c : (0 ≤ a ∧ a ≤ 3) ∧ 0 ≤ b ∧ b ≤ 2) : zm87 (some (12, 0)) (zE a) (zE b) h = some (.inl (zE (s 14 (3 * a + b))), h) := by
  obtain ⟨cr, cs, cA, cP, cR, cZ, cT, cE, cV, cK, cG, cX, cM, cN⟩ := hC
  obtain ⟨p1, p2⟩ := zc132 (h := h) (a := a) (b := b) cr cV (by omega) (by omega) (by omega) (by omega)
  simp (discharger := omega) only [zm87, ↓zo_12, p1 c, ↓zb_s, ↓zo_10, zCk2 cK]
theorem zk_capital {h : zH} {s : zS} {a b : Int} (hC : zCl h s) (hW : zWf s) (q : (0 ≤ a ∧ a ≤ 3) ∧ 0 ≤ b ∧ b ≤ 2) : zm102 (some (12, 0)) (zE a) (zE b) h = some (.inl (zcpN s (3 * a + b) (zprs s (3 * a + b)).toNat), h) := by
  obtain ⟨cr, cs, cA, cP, cR, cZ, cT, cE, cV, cK, cG, cX, cM, cN⟩ := hC
  obtain ⟨d1, d2⟩ := zc132 (h := h) (a := a) (b := b) cr cV (by omega) (by omega) (by omega) (by omega)
  have e1 := cM.2 (3 * a + b) (by omega) (by omega)
  simp (discharger := omega) only [zm102, ↓zo_12, d1 q, ↓zb_s, ↓zo_10, e1]
theorem zk_verdict {h : zH} {s : zS} {a b : Int} (hC : zCl h s) (hW : zWf s) (q : (0 ≤ a ∧ a ≤ 3) ∧ 0 ≤ b ∧ b ≤ 2) : zm103 (some (12, 0)) (zE a) (zE b) h = some (.inl (zE (zvd s (3 * a + b))), h) := by
  obtain ⟨cr, cs, cA, cP, cR, cZ, cT, cE, cV, cK, cG, cX, cM, cN⟩ := hC
  have wM := hW.2.2.2.2.2.2.2.2.2.2.1
  obtain ⟨d1, d2⟩ := zc132 (h := h) (a := a) (b := b) cr cV (by omega) (by omega) (by omega) (by omega)
  have e1 := zc34 cK cM wM (k := 3 * a + b) (by omega) (by omega)
  simp (discharger := omega) only [zm103, ↓zo_12, d1 q, ↓zb_s, ↓zo_10, e1]
theorem zk_verdictByAll {h : zH} {s : zS} {a b : Int} (hC : zCl h s) (hW : zWf s) (q : (0 ≤ a ∧ a ≤ 3) ∧ 0 ≤ b ∧ b ≤ 2) : zm104 (some (12, 0)) (zE a) (zE b) h = some (.inl (zE (zvd s (3 * a + b))), h) := by
  obtain ⟨cr, cs, cA, cP, cR, cZ, cT, cE, cV, cK, cG, cX, cM, cN⟩ := hC
  have wM := hW.2.2.2.2.2.2.2.2.2.2.1
  obtain ⟨d1, d2⟩ := zc132 (h := h) (a := a) (b := b) cr cV (by omega) (by omega) (by omega) (by omega)
  have e1 := zc35 cK cM wM (k := 3 * a + b) (by omega) (by omega)
  simp (discharger := omega) only [zm104, ↓zo_12, d1 q, ↓zb_s, ↓zo_10, e1]
theorem zk_wayOut {h : zH} {s : zS} {a b : Int} (hC : zCl h s) (hW : zWf s) (c : (0 ≤ a ∧ a ≤ 3) ∧ 0 ≤ b ∧ b ≤ 2) : ∃ v, zm93 (some (12, 0)) (zE a) (zE b) h = some (.inl (zE v), h) ∧ (v = -1 ∨ (s 12 (3 * a + b) < v ∧ v < s 2 0 ∧ zmyV s v 0)) := by
  obtain ⟨cr, cs, cA, cP, cR, cZ, cT, cE, cV, cK, -⟩ := hC
  obtain ⟨wA, wK, wC, wD, -⟩ := hW
  have hn := wA.1
  obtain ⟨p1, p2⟩ := zc132 (h := h) (a := a) (b := b) cr cV (by omega) (by omega) (by omega) (by omega)
  obtain ⟨k1, -⟩ := wK (3 * a + b) (by omega) (by omega)
  by_cases e : s 12 (3 * a + b) = -1
  · refine ⟨-1, ?_, Or.inl rfl⟩
    have ez : (zrf 0 (s 12 (3 * a + b)) = none) = True := by rw [zrf_z k1.1]; exact eq_true e
    simp (discharger := omega) only [zm93, ↓zo_12, p1 c, ↓zb_s, ↓zo_10, zCk0 cK, ↓zlet_s, ez, if_true, zE_0, zE_1, zE_2, zE_3, zE_4, zE_5, zE_6, zE_7, zE_8, zE_9, zE_10, zE_11, zE_12, zE_13, zE_14, zE_neg]
  · obtain ⟨v, v1, v2⟩ := zc93_15 cr cA cV wA wK wC wD (v := a) (st := s 12 (3 * a + b)) (by omega) (by omega) (by omega) (by omega)
    refine ⟨v, ?_, ?_⟩
    · have ez : (zrf 0 (s 12 (3 * a + b)) = none) = False := by rw [zrf_z k1.1]; exact eq_false e
      have eo : ∀ f : Nat → Nat → zRs Int32, zob 0 (zrf 0 (s 12 (3 * a + b))) f = f 0 (s 12 (3 * a + b)).toNat := fun f => by rw [zrf_s (by omega), zo_0]
      simp (discharger := omega) only [zm93, ↓zo_12, p1 c, ↓zb_s, ↓zo_10, zCk0 cK, ↓zlet_s, ez, if_false, eo, zCa0 cA, zE_0, zE_1, zE_2, zE_3, zE_4, zE_5, zE_6, zE_7, zE_8, zE_9, zE_10, zE_11, zE_12, zE_13, zE_14, zE_neg, zE_add, v2]
    · unfold zwo zwoP at v1
      rcases v1 with ⟨v1, -⟩ | ⟨v1, v3, v4, -⟩
      · exact Or.inl v1
      · exact Or.inr ⟨v1, v3, v4.2⟩
theorem zk_sees {h : zH} {s : zS} {a b : Int} (hC : zCl h s) (hW : zWf s) (c : (0 ≤ a ∧ a ≤ 3) ∧ 0 ≤ b ∧ b ≤ 199) : zm88 (some (12, 0)) (zE a) (zE b) h = some (.inl (zE (zsnf s a b)), h) := by
  obtain ⟨cr, cs, cA, cP, cR, cZ, cT, cE, cV, cK, -⟩ := hC
  obtain ⟨wA, wK, wC, wD, -⟩ := hW
  have hn := wA.1
  obtain ⟨q1, q2⟩ := zsnf_r wK wC (v := a) (c := b) (by omega) (by omega) (by omega) (by omega)
  have e := zc89 cr cV cK wA wK wC (v := a) (c := b) (by omega) (by omega) (by omega) (by omega)
  simp (discharger := omega) only [zm88, zE_0, zE_1, zE_2, zE_3, zE_4, zE_5, zE_6, zE_7, zE_8, zE_9, zE_10, zE_11, zE_12, zE_13, zE_14, zE_neg, zE_199, zc131, if_pos c.1, if_pos c.2, ↓zo_12, ↓zb_s, e, zc134 cA]
theorem zk_seers {h : zH} {s : zS} {a r : Int} (hC : zCl h s) (hW : zWf s) (c : 0 ≤ a ∧ a < s 2 0) (d : 0 ≤ r ∧ r ≤ 2) : zm90 (some (12, 0)) (zE a) (zE r) h = some (.inl (zE (zcnt (zsrP s a r) 200)), h) := by
  obtain ⟨cr, cs, cA, cP, cR, cZ, cT, cE, cV, cK, -⟩ := hC
  obtain ⟨wA, wK, wC, wD, -⟩ := hW
  have hn := wA.1
  have e := zc90_19 cr cA cV cK wA wK wC c.1 c.2 d.1 d.2
  simp (discharger := omega) only [zm90, ↓zo_12, ↓zLAz cr cA, zc130, if_pos c, zE_0, zE_1, zE_2, zE_3, zE_4, zE_5, zE_6, zE_7, zE_8, zE_9, zE_10, zE_11, zE_12, zE_13, zE_14, zE_neg, zc131, if_pos d, ↓zb_s, ↓zLAg cr cA, ↓zo_0, e]
theorem zk_left {h : zH} {s : zS} {a : Int} (hC : zCl h s) (hW : zWf s) (c : 0 ≤ a ∧ a ≤ 2) : zm111 (some (12, 0)) (zE a) h = some (.inl (zE (zpls s a - ztkn s a)), h) := by
  obtain ⟨cr, cs, cA, cP, cR, cZ, cT, cE, cV, cK, cG, cX, -⟩ := hC
  obtain ⟨wA, wK, wC, wD, wP, wR, wZ, -⟩ := hW
  have e1 := zc71 cr cX wZ (r := a) (by omega) (by omega)
  have e2 := zc69 cr cV cK wA wK (r := a) (by omega) (by omega)
  simp (discharger := omega) only [zm111, zE_0, zE_1, zE_2, zE_3, zE_4, zE_5, zE_6, zE_7, zE_8, zE_9, zE_10, zE_11, zE_12, zE_13, zE_14, zE_neg, zc131, if_pos c, ↓zo_12, ↓zb_s, e1, e2, zE_sub]
theorem zk_isDead {h : zH} {s : zS} (hC : zCl h s) (hW : zWf s) : zm83 (some (12, 0)) h = some (.inl (zE (s 43 0)), h) := by
  obtain ⟨cr, cs, -⟩ := hC
  obtain ⟨-, -, -, -, -, -, -, -, -, -, -, wX⟩ := hW
  have hv : zE (s 43 0) = 0 ∨ zE (s 43 0) = 1 := by
    rcases (show s 43 0 = 0 ∨ s 43 0 = 1 by have := wX.1; omega) with e | e <;> rw [e]
    · exact Or.inl rfl
    · exact Or.inr rfl
  rw [zm83, zo_12, zCs13 cs, zif_s hv]
theorem zk_effects {h : zH} {s : zS} (hC : zCl h s) : zm84 (some (12, 0)) h = some (.inl (zE (s 45 0)), h) := by
  obtain ⟨cr, cs, -⟩ := hC
  rw [zm84, zo_12, zCs14 cs]
theorem zcnf_0 {P : Int → Prop} {i : Nat} : ∀ m : Nat, (∀ x : Nat, x < m → ¬ P ((i + x : Nat) : Int)) → zcnf P i m = 0
  | 0, _ => rfl
  | m + 1, h => by
    show zcnf P i m + zcn1 (P ((i + m : Nat) : Int)) = 0
    rw [zcnf_0 m (fun x hx => h x (by omega)), zcn1_f (h m (by omega))]
    rfl
theorem zpr2_0 {P : Int → Int → Prop} {n : Nat} : ∀ i : Nat, i ≤ n → (∀ a b : Nat, a < b → b < n → ¬ P (a : Int) (b : Int)) → zpr2 P n i = 0
  | 0, _, _ => rfl
  | i + 1, hi, h => by
    show zpr2 P n i + zcnf (fun b => P (i : Int) b) (i + 1) (n - (i + 1)) = 0
    rw [zpr2_0 i (by omega) h, zcnf_0 _ (fun x hx => h i (i + 1 + x) (by omega) (by omega))]
    rfl
theorem zk_forbidden {h : zH} {s : zS} (hC : zCl h s) (hW : zWf s) (hJ : zJl s) : zm48 (some (12, 0)) h = some (.inl (zE 0), h) := by
  obtain ⟨cr, cs, cA, -⟩ := hC
  obtain ⟨wA, wK, wC, -⟩ := hW
  have hn := wA.1
  rw [zc48_4 cr cA wA wK wC, zpr2_0 _ (Nat.le_refl _) (fun a b ab bn z => by
    unfold zfbP at z
    exact z.2.2 (hJ a b (by omega) (by omega) (by omega) (by omega) (by omega) z.1 z.2.1))]
