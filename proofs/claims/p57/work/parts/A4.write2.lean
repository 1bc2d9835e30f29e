set_option maxRecDepth 16384
/-! .. more of them. -/
theorem zk_artefact {h : zH} {s : zS} {a b c d e f g p q : Int} (hC : zCl h s) (hW : zWf s) (hp : p = 0 ∨ p = 1) (hq : q = 0 ∨ q = 1) (ok : (zatO a b c d e f g ∧ zbt f g) ∧ zatN a d e) (e1 : -2147483648 ≤ e) (e2 : e < 2147483648) (c5 : s 2 0 < 30) : zDo h (zatS s a b c d e f g p q) (zm40 (some (12, 0)) (zE a) (zE b) (zE c) (zE d) (zE e) (zE f) (zE g) (zE p) (zE q) h) (zE (s 2 0)) := by
  have z1 : ¬ zE 1 = zE 0 := by decide
  have hC0 := hC
  have hW0 := hW
  obtain ⟨cr, cs, cA, -⟩ := hC
  have cN := hC0.2.2.2.2.2.2.2.2.2.2.2.2.2
  obtain ⟨wA, wK, wC, wD, wP, wR, wZ, wT, wG, wE, wM, wX⟩ := hW
  have hn := wA.1
  have ep : zE p = 0 ∨ zE p = 1 := zE_01 hp
  have eq : zE q = 0 ∨ zE q = 1 := zE_01 hq
  have ep' : zE p = zE 0 ∨ zE p = zE 1 := ep
  have eq' : zE q = zE 0 ∨ zE q = zE 1 := eq
  have oo := ok.1.1
  unfold zatO at oo
  obtain ⟨k1, k2⟩ := zc41 (h := h) (a := a) (d := d) (e := e) (by omega) (by omega) (by omega) (by omega) e1 e2
  have k1 := k1 ok.2
  obtain ⟨o1, o2, o3, o4, o5, o6⟩ := oo
  obtain ⟨v, v1, v2⟩ := zc133 (h := h) (x := f) (k := g) (by omega) (by omega) o6.1 o6.2
  have : v = 1 := v1.u (zbo_1 ok.1.2)
  subst this
  have hC' := zatH_C (a := a) (b := b) (c := c) (d := d) (e := e) (f := f) (g := g) (p := p) (q := q) hC0 hW0
  have hW' := zatS_W (p := p) (q := q) hW0 c5 ok.1.1 ok.2 (by omega) (by omega)
  have hl := cA.1.2
  have hct := cN.1
  obtain ⟨cc, nn, hc1, hn1, he⟩ := zladd_e (h := zatH h (s 2 0) a b c d e f g p q) (k := 14) (k2 := 0) (i2 := zct h 0) (show zln h 14 0 < 33 by omega)
  have hC2 : zCl (zladd (zatH h (s 2 0) a b c d e f g p q) 14 0 0 (zct h 0)) (zatS s a b c d e f g p q) := by
    rw [he]
    exact hC'.kp zKp_o
  have hK2 : zKp (fun k => ¬ zpc1 k) h (zladd (zatH h (s 2 0) a b c d e f g p q) 14 0 0 (zct h 0)) := by
    rw [he]
    exact zKp.tr (zat_k _ (fun z => z (by unfold zpc1; decide)) (fun z => z (by unfold zpc1; decide)) (fun z => z (by unfold zpc1; decide))) zKp_o
  refine ⟨hW', zladd (zatH h (s 2 0) a b c d e f g p q) 14 0 0 (zct h 0), ?_, hC2, hK2, ?_, ?_⟩
  · have y1 : zelB (zatH h (s 2 0) a b c d e f g p q) 14 0 = true := zel_t 0 ⟨rfl, rfl⟩ fun j hj => by
      have := (cA.2 (j : Int) (by omega) (by have : j < zln h 14 0 := hj; omega)).1
      exact this
    have y2 : zi (zatH h (s 2 0) a b c d e f g p q) 14 0 1 = 1 := cA.1.1
    have y3 : zln (zatH h (s 2 0) a b c d e f g p q) 14 0 < 33 := show zln h 14 0 < 33 by omega
    have y0 : ¬ ((3 : Int32) < 0 ∨ 100000 < (3 : Int32).toNatClampNeg) := by decide
    have y4 : zm0 (some (0, zct h 0)) (zE (s 2 0)) (zE a) (zE b) (znw h 0 0 12) = some (.inl (), zsi (zsi (zsi (zatB h) 0 (zct h 0) 0 (zE (s 2 0))) 0 (zct h 0) 1 (zE a)) 0 (zct h 0) 2 (zE b)) := by
      rw [zm0, znn_s, if_neg y0, zlet_s, zo_0, zlet_s, zlet_s, zlet_s, zlet_s]
      rfl
    have y5 : ∀ fi : Int32 → zRs Int32, zlz (zr (znw h 0 0 12) 12 0 0) (znw h 0 0 12) fi = fi (zE (s 2 0)) := fun fi => zlz_s (show zr (znw h 0 0 12) 12 0 0 = some (14, 0) from zCr0 cr) rfl (show zi (znw h 0 0 12) 14 0 1 = 1 from cA.1.1) (show (zln (znw h 0 0 12) 14 0 : Int) = s 2 0 from cA.1.2)
    have y6 : zi (zladd (zatH h (s 2 0) a b c d e f g p q) 14 0 0 (zct h 0)) 0 (zct h 0) 0 = zE (s 2 0) := by
      have := zCa0 hC2.2.2.1 (a := s 2 0) (by omega) (by rw [zatS_2]; omega)
      rwa [show (s 2 0).toNat = zct h 0 by omega] at this
    show zm40 (some (12, 0)) (zE a) (zE b) (zE c) (zE d) (zE e) (zE f) (zE g) (zE p) (zE q) h = _
    simp (discharger := omega) only [zm40, zE_0, zE_1, zE_2, zE_3, zE_4, zE_5, zE_6, zE_7, zE_8, zE_9, zE_10, zE_11, zE_12, zE_13, zE_14, zE_neg, zE_255, zE_30, zc131, if_pos o1, if_pos o2, if_pos o3, if_pos o4, if_pos o5, if_pos o6, ↓zb_s, k1, v2, z1, if_false, ↓zo_12, ↓zLAz cr cA, zE_lt, c5, if_true]
    rw [zlet_s, y5, zo_0, y4, zb2_s, zlet_s, zo_0, zlet_s, zlet_s, zlet_s, zlet_s, zlet_s, zif_s ep', zlet_s, zif_s eq', zlet_s]
    show znn (zr (zatH h (s 2 0) a b c d e f g p q) 12 0 0) _ = _
    rw [show zr (zatH h (s 2 0) a b c d e f g p q) 12 0 0 = some (14, 0) from zCr0 cr, znn_s, znn_s]
    show zif _ (zif (zi (zatH h (s 2 0) a b c d e f g p q) 14 0 1 = zE 1 ∧ zln (zatH h (s 2 0) a b c d e f g p q) 14 0 < 33) (zlet (zladd (zatH h (s 2 0) a b c d e f g p q) 14 0 0 (zct h 0)) _)) = _
    rw [zif_s (by show (ztg 14 == 9 && ztg 0 == 0 && (zkc 0 == zel 14 && zelB (zatH h (s 2 0) a b c d e f g p q) 14 0)) = true; rw [y1]; rfl), zif_s ⟨by rw [y2, zE_1], y3⟩, zlet_s, y6]
  · rw [he]
    show zce h + 1 + 1 + cc ≤ _
    omega
  · rw [he]
    show zso h + 12 + 3 + nn ≤ _
    omega
theorem zk_release {h : zH} {s : zS} {a p : Int} (hC : zCl h s) (hW : zWf s) (q1 : 0 ≤ a ∧ a < s 2 0) (q2 : 0 ≤ p ∧ p < s 25 0) (e3 : s 30 0 < 20) (e4 : s 26 p ≠ 0) (e5 : ¬ zxs 0 (s 30 0) (zrlP s a)) : zDo h (zrlS s a p) (zm52 (some (12, 0)) (zE a) (zE p) h) (zE (s 30 0)) := by
  have z1 : ¬ zE 1 = zE 0 := by decide
  have hC0 := hC
  have hW0 := hW
  obtain ⟨cr, cs, cA, cP, cR, -⟩ := hC
  have cN := hC0.2.2.2.2.2.2.2.2.2.2.2.2.2
  obtain ⟨wA, wK, wC, wD, wP, wR, wZ, wT, wG, wE, wM, wX⟩ := hW
  have nA := wA.1
  have nP := wP.1
  have nR := wR.1
  have h26 := wP.2.1 p q2.1 q2.2
  have e3' : ¬ 20 ≤ s 30 0 := by omega
  obtain ⟨q, k1, k2⟩ := zc53 (a := a) cr cR wR q1.1
  have e6 : q = none := k1.mpr e5
  subst e6
  have hC' := zrlH_C hC0 hW0 (show s 30 0 < 20 by omega) q1.1 q1.2 q2.1 q2.2
  have hW' := zrlS_W hW0 (show s 30 0 < 20 by omega) q1.1 q1.2 q2.1 q2.2 e4 e5
  have hl := cR.1.2
  have hq := cN.2.2.2.2.2.2.1
  obtain ⟨cc, nn, hc1, hn1, he⟩ := zladd_e (h := zrlH h a p (s 1 0)) (k := 16) (k2 := 5) (i2 := zct h 5) (show zln h 16 0 < 33 by omega)
  have hC2 : zCl (zladd (zrlH h a p (s 1 0)) 16 0 5 (zct h 5)) (zrlS s a p) := by
    rw [he]
    exact hC'.kp zKp_o
  have hK2 : zKp (fun k => ¬ zpc1 k) h (zladd (zrlH h a p (s 1 0)) 16 0 5 (zct h 5)) := by
    rw [he]
    exact zKp.tr (zrl_k _ (fun z => z (by unfold zpc1; decide)) (fun z => z (by unfold zpc1; decide)) (fun z => z (by unfold zpc1; decide)) (fun z => z (by unfold zpc1; decide)) (fun z => z (by unfold zpc1; decide))) zKp_o
  refine ⟨hW', zladd (zrlH h a p (s 1 0)) 16 0 5 (zct h 5), ?_, hC2, hK2, ?_, ?_⟩
  · have g1 : zelB (zrlH h a p (s 1 0)) 16 0 = true := zel_t 5 ⟨rfl, rfl⟩ fun j hj => by
      have := (cR.2 (j : Int) (by omega) (by have : j < zln h 16 0 := hj; omega)).1
      exact this
    have g2 : zi (zrlH h a p (s 1 0)) 16 0 1 = 1 := cR.1.1
    have g3 : zln (zrlH h a p (s 1 0)) 16 0 < 33 := show zln h 16 0 < 33 by omega
    have g0 : ¬ ((3 : Int32) < 0 ∨ 100000 < (3 : Int32).toNatClampNeg) := by decide
    have g4 : (zm9 (some (5, zct h 5)) (some (0, a.toNat)) (some (4, p.toNat)) (zE (s 1 0)) (zrlA h p)) = some (.inl (), zrlH h a p (s 1 0)) := by
      rw [zm9, znn_s, zo_5, zlet_s, if_neg g0, zlet_s, zlet_s, if_neg g0, zlet_s, zlet_s, zlet_s, zlet_s, zlet_s, zE_0]
      rfl
    have g5 : zi (znw (zsi h 4 p.toNat 4 (zE 1)) 5 0 11) 12 0 11 = zE (s 1 0) := zCs11 cs
    have g6 : zr (zsi h 4 p.toNat 4 (zE 1)) 12 0 2 = some (16, 0) := zCr2 cr
    show zm52 (some (12, 0)) (zE a) (zE p) h = _
    simp (discharger := omega) only [zm52, ↓zo_12, ↓zLAz cr cA, zc130, if_pos q1, ↓zb_s, ↓zLPz cr cP, if_pos q2, ↓zLAg cr cA, ↓zo_0, ↓zLPg cr cP, ↓zo_4, ↓zLRz cr cR, zE_0, zE_1, zE_2, zE_3, zE_4, zE_5, zE_6, zE_7, zE_8, zE_9, zE_10, zE_11, zE_12, zE_13, zE_14, zE_neg, zE_20, zE_le, e3', if_false, zCp3 cP, zE_inj, e4, k2, if_true]
    rw [zlet_s, zlet_s, zo_5, g5]
    show zb2 (zm9 (some (5, zct h 5)) (some (0, a.toNat)) (some (4, p.toNat)) (zE (s 1 0)) (zrlA h p)) _ = _
    rw [g4, zb2_s, g6, znn_s, znn_s, zif_s (by rw [show zelB (zrlH h a p (s 1 0)) 16 0 = true from g1]; rfl), zif_s ⟨by rw [g2, zE_1], g3⟩, zlet_s]
    show zlz (zr (zladd (zrlH h a p (s 1 0)) 16 0 5 (zct h 5)) 12 0 2) (zladd (zrlH h a p (s 1 0)) 16 0 5 (zct h 5)) _ = _
    rw [zLRz hC2.1 hC2.2.2.2.2.1, zrlS_30, zE_sub, show s 30 0 + 1 - 1 = s 30 0 by omega]
    rfl
  · rw [he]
    show zce h + 1 + 1 + 1 + cc ≤ _
    omega
  · rw [he]
    show zso h + 11 + 3 + 3 + nn ≤ _
    omega
theorem zk_begin {h : zH} {s : zS} {v c : Int} (hC : zCl h s) (hW : zWf s) (q1 : 0 ≤ v ∧ v ≤ 3) (q2 : 0 ≤ c ∧ c ≤ 199) (e1 : s 18 (200 * v + c) = -1) (e2 : zsnf s v c ≠ -1) (e4 : s 19 0 < 40) : zDo h (zseS s v c (zsnf s v c) 1) (zm91 (some (12, 0)) (zE v) (zE c) h) (zE (zsnf s v c)) := by
  have hC0 := hC
  have hW0 := hW
  obtain ⟨cr, cs, cA, -, -, -, -, -, cV, cK, -⟩ := hC
  obtain ⟨wA, wK, wC, wD, wP, wR, wZ, wT, wG, wE, wM, wX⟩ := hW
  have r1 := zsnf_r wK wC (v := v) (c := c) q1.1 (by omega) q2.1 (by omega)
  have r2 := wC.2 (200 * v + c) (by omega) (by omega)
  have r3 := wC.1
  have hn := wA.1
  have e89 := zc89 cr cV cK wA wK wC q1.1 (show v < 4 by omega) q2.1 (show c < 200 by omega)
  have e3 : ¬ zrf 0 (zsnf s v c) = none := by rw [zrf_z r1.1]; exact e2
  have hd : ((-1 : Int) = -1 ∧ zsnf s v c = zsnf s v c ∧ (1 : Int) = 1) ∨ ((-1 : Int) = zsnf s v c ∧ zsnf s v c = -1 ∧ (1 : Int) = -1) := Or.inl ⟨rfl, rfl, rfl⟩
  have a0 : 0 ≤ zsnf s v c := by omega
  have a3 := zsnf_v wK wC q1.1 (show v < 4 by omega) q2.1 (show c < 200 by omega) e2
  have hCn := zw_ses hC0 q1.1 (show v < 4 by omega) q2.1 (show c < 200 by omega) a0 r1.2 e1 hd
  have hWn := zseS_W (d := 1) hW0 q1.1 (by omega) q2.1 (by omega) a0 r1.2 a3 e1 (Or.inl ⟨rfl, rfl, rfl, e4⟩)
  refine ⟨hWn, zse3 h s v c (zsnf s v c) (zsnf s v c) 1, ?_, hCn, zse_k, by show zce h ≤ _; omega, by show zso h ≤ _; omega⟩
  simp (discharger := omega) only [zm91, zE_0, zE_1, zE_2, zE_3, zE_4, zE_5, zE_6, zE_7, zE_8, zE_9, zE_10, zE_11, zE_12, zE_13, zE_14, zE_neg, zE_199, zE_40, zc131, if_pos q1, if_pos q2, ↓zb_s, ↓zo_12, ↓zLVa cr cV, ↓zo_9, ↓zlet_s, e89, ↓zLSa cV, e1, zrf_n, if_true, e3, if_false, zCs15 cs, zE_lt, e4]
  have hr := zrgf_r c
  generalize zsnf s v c = a at *
  rw [zas_s (zCv2 cV q1.1 (by omega)) (zrf_s a0) rfl (zCvL2 cV q1.1 (by omega)) q2.1 (by omega) (by omega)]
  rw [← zrf_s (k := 0) a0, show zi (zsr h 29 v.toNat c.toNat (zrf 0 a)) 12 0 15 = zE (s 19 0) from zCs15 cs, zE_add]
  rw [show zsi (zsr h 29 v.toNat c.toNat (zrf 0 a)) 12 0 15 (zE (s 19 0 + 1)) = zse1 h s v c a 1 from rfl, zob_f rfl a0]
  rw [show zi (zse1 h s v c a 1) 0 a.toNat 10 = zE (zus s a) from zCa10 cA a0 r1.2, zE_add]
  rw [show zsi (zse1 h s v c a 1) 0 a.toNat 10 (zE (zus s a + 1)) = zse2 h s v c a a 1 from rfl, zc135 q2.1 (by omega), zb_s]
  have f1 : zr (zse2 h s v c a a 1) 0 a.toNat 11 = some (21, a.toNat) := zCa11 cA a0 r1.2
  have f2 : zln (zse2 h s v c a a 1) 21 a.toNat = 3 := zCaL cA a0 r1.2
  have f3 : zi (zse2 h s v c a a 1) 21 a.toNat (zrgf c).toNat = zE (zss s a (zrgf c)) := zCaS cA a0 r1.2 _ hr.1 (by omega)
  rw [zri_s f1 rfl f2 hr.1 (by omega) (by omega) f3, zar_s f1 rfl f2 hr.1 (by omega) (by omega), zE_add]
  have f4 : zi (zse3 h s v c a a 1) 0 a.toNat 0 = zE a := by
    show zi (zse2 h s v c a a 1) 0 a.toNat 0 = _
    exact (zi_j (by decide)).trans (zCa0 cA a0 r1.2)
  show some (Sum.inl (zi (zse3 h s v c a a 1) 0 a.toNat 0), zse3 h s v c a a 1) = _
  rw [f4]
theorem zk_end {h : zH} {s : zS} {v c : Int} (hC : zCl h s) (hW : zWf s) (q1 : 0 ≤ v ∧ v ≤ 3) (q2 : 0 ≤ c ∧ c ≤ 199) (e1 : s 18 (200 * v + c) ≠ -1) : zDo h (zseS s v c (-1) (-1)) (zm92 (some (12, 0)) (zE v) (zE c) h) (zE (s 18 (200 * v + c))) := by
  have hC0 := hC
  have hW0 := hW
  obtain ⟨cr, cs, cA, -, -, -, -, -, cV, cK, -⟩ := hC
  obtain ⟨wA, wK, wC, wD, wP, wR, wZ, wT, wG, wE, wM, wX⟩ := hW
  have r2 := wC.2 (200 * v + c) (by omega) (by omega)
  have r3 := wC.1
  have hn := wA.1
  have e3 : ¬ zrf 0 (s 18 (200 * v + c)) = none := by rw [zrf_z r2.1]; exact e1
  obtain ⟨a, ha⟩ : ∃ a, s 18 (200 * v + c) = a := ⟨_, rfl⟩
  rw [ha] at e1 e3 r2
  have hd : (a = -1 ∧ (-1 : Int) = a ∧ (-1 : Int) = 1) ∨ (a = a ∧ (-1 : Int) = -1 ∧ (-1 : Int) = -1) := Or.inr ⟨rfl, rfl, rfl⟩
  have a0 : 0 ≤ a := by omega
  have a3 : s 3 a = v := by rw [r2.2.2 e1]; omega
  have hCn := zw_ses hC0 q1.1 (show v < 4 by omega) q2.1 (show c < 200 by omega) a0 r2.2.1 ha hd
  have hWn := zseS_W (d := -1) hW0 q1.1 (by omega) q2.1 (by omega) a0 r2.2.1 a3 ha (Or.inr ⟨rfl, rfl, rfl⟩)
  rw [ha]
  refine ⟨hWn, zse3 h s v c a (-1) (-1), ?_, hCn, zse_k, by show zce h ≤ _; omega, by show zso h ≤ _; omega⟩
  simp (discharger := omega) only [zm92, zE_0, zE_1, zE_2, zE_3, zE_4, zE_5, zE_6, zE_7, zE_8, zE_9, zE_10, zE_11, zE_12, zE_13, zE_14, zE_neg, zE_199, zc131, if_pos q1, if_pos q2, ↓zb_s, ↓zo_12, ↓zLVa cr cV, ↓zo_9, ↓zlet_s, ↓zLSa cV, ha, e3, if_false]
  have hr := zrgf_r c
  rw [zar_s (zCv2 cV q1.1 (by omega)) rfl (zCvL2 cV q1.1 (by omega)) q2.1 (by omega) (by omega)]
  rw [show zi (zsr h 29 v.toNat c.toNat none) 12 0 15 = zE (s 19 0) from zCs15 cs, zE_sub, Int.sub_eq_add_neg]
  rw [show zsi (zsr h 29 v.toNat c.toNat none) 12 0 15 (zE (s 19 0 + -1)) = zse1 h s v c (-1) (-1) from rfl, zob_f rfl a0]
  rw [show zi (zse1 h s v c (-1) (-1)) 0 a.toNat 10 = zE (zus s a) from zCa10 cA a0 r2.2.1, zE_sub, Int.sub_eq_add_neg]
  rw [show zsi (zse1 h s v c (-1) (-1)) 0 a.toNat 10 (zE (zus s a + -1)) = zse2 h s v c a (-1) (-1) from rfl, zc135 q2.1 (by omega), zb_s]
  have f1 : zr (zse2 h s v c a (-1) (-1)) 0 a.toNat 11 = some (21, a.toNat) := zCa11 cA a0 r2.2.1
  have f2 : zln (zse2 h s v c a (-1) (-1)) 21 a.toNat = 3 := zCaL cA a0 r2.2.1
  have f3 : zi (zse2 h s v c a (-1) (-1)) 21 a.toNat (zrgf c).toNat = zE (zss s a (zrgf c)) := zCaS cA a0 r2.2.1 _ hr.1 (by omega)
  rw [zri_s f1 rfl f2 hr.1 (by omega) (by omega) f3, zar_s f1 rfl f2 hr.1 (by omega) (by omega), zE_sub, Int.sub_eq_add_neg]
  have f4 : zi (zse3 h s v c a (-1) (-1)) 0 a.toNat 0 = zE a := by
    show zi (zse2 h s v c a (-1) (-1)) 0 a.toNat 0 = _
    exact (zi_j (by decide)).trans (zCa0 cA a0 r2.2.1)
  show some (Sum.inl (zi (zse3 h s v c a (-1) (-1)) 0 a.toNat 0), zse3 h s v c a (-1) (-1)) = _
  rw [f4]
noncomputable def zstT (s : zS) (r : Int) : zS := zco (zre s 12) (zbkT (zre s 12) r) 12
theorem zk_stop {h : zH} {s : zS} {r : Int} (hC : zCl h s) (hW : zWf s) (q : 0 ≤ r ∧ r < s 30 0) (d : ¬ 1 < s 33 r) : ∃ c : Int, 0 ≤ c ∧ c ≤ 3 ∧ zDo h (zstT s r) (zm55 (some (12, 0)) (zE r) h) (zE c) := by
  have z1 : ¬ zE 1 = zE 0 := by decide
  have hC0 := hC
  have hW0 := hW
  have cr : zCr h := hC.1
  have cR : zCR h s := hC.2.2.2.2.1
  have wR := hW.2.2.2.2.2.1
  have h20 := wR.1
  have x1 : -2147483648 ≤ r := by omega
  have x2 : r < 2147483648 := by omega
  have hb := wR.2.2 r q.1 q.2
  have eS : zstT s r = zco (zre s 12) (zen (zgb (zlos (zre s 12) (s 31 r) (s 3 (s 31 r)) 3) r 3) r (s 31 r) 3 (zgb (zlos (zre s 12) (s 31 r) (s 3 (s 31 r)) 3) r 3 30 0).toNat) 12 := by
    obtain ⟨f1, -, -⟩ := zre_j (s := s) 12
    unfold zstT zbkT
    rw [f1 31 (by decide) (by decide) (by decide) (by decide), f1 3 (by decide) (by decide) (by decide) (by decide)]
  rw [eS]
  have a0 := hb.1
  have v0 := (hW.1.2 _ a0.1 a0.2).1
  obtain ⟨f1, f2, f3⟩ := zre_j (s := s) 12
  have hCs : zCl h (zre s 12) := hC.sc zre_sc
  have hWs : zWf (zre s 12) := hW.sc zre_sc
  have e2 := f1 2 (by decide) (by decide) (by decide) (by decide)
  have e3 := f1 3 (by decide) (by decide) (by decide) (by decide)
  have e30 := f1 30 (by decide) (by decide) (by decide) (by decide)
  have e31 := f1 31 (by decide) (by decide) (by decide) (by decide)
  have ev : zre s 12 3 (s 31 r) = s 3 (s 31 r) := by rw [e3]
  have ea : zre s 12 31 r = s 31 r := by rw [e31]
  have r1 : r < zre s 12 30 0 := by rw [e30]; exact q.2
  have a1 : s 31 r < zre s 12 2 0 := by rw [e2]; exact a0.2
  have hn := hWs.1.1
  obtain ⟨h1, c1, C1, F1⟩ := zc58 (zClM_0 hCs rfl rfl rfl) hWs.1 hWs.2.1 a0.1 a1 ev
  obtain ⟨w1, w12, wo1⟩ := zlos_w (a := s 31 r) hWs.2.1 v0.1 v0.2 a0.1 hn.1 3 (Nat.le_refl _)
  obtain ⟨h2, c2, C2, F2⟩ := zc56_8 (k := zm56_24) C1 hWs w1 w12 q.1 r1 (v := s 3 (s 31 r)) (by rw [ea]; exact ev)
  obtain ⟨w2, w13, w14, wo2⟩ := zgb_w w1 hWs.1 hWs.2.2.2.2.2.1 q.1 r1 (v := s 3 (s 31 r)) (by rw [ea]; exact ev) 3 (Nat.le_refl _)
  generalize ht1 : zlos (zre s 12) (s 31 r) (s 3 (s 31 r)) 3 = t1 at *
  generalize ht2 : zgb t1 r 3 = t2 at *
  have W2 : zWf t2 := zWf_mw hWs w2
  have g30 : t2 30 = s 30 := (w2.1 30 (by decide) (by decide) (by decide)).trans e30
  have g31 : t2 31 = s 31 := (w2.1 31 (by decide) (by decide) (by decide)).trans e31
  have r2 : r < t2 30 0 := by rw [g30]; exact q.2
  obtain ⟨h3, c3, C3, F3⟩ := zc59 (e := 3) C2 W2 q.1 r2 (a := s 31 r) (by rw [g31]) (by omega)
  have W3 : zWf (zen t2 r (s 31 r) 3 (t2 30 0).toNat) := zen_W W2 q.1 r2 (by omega) _ (by omega)
  have xj : ∀ j, j ≠ 33 ∧ j ≠ 34 ∧ j ≠ 35 ∧ j ≠ 37 → zen t2 r (s 31 r) 3 (t2 30 0).toNat j = t2 j := fun j z => zen_j z.1 z.2.1 z.2.2.1 z.2.2.2 _
  generalize ht3 : zen t2 r (s 31 r) 3 (t2 30 0).toNat = t3 at *
  have y12 := xj 12 (by decide)
  have y13 := xj 13 (by decide)
  have y14 := xj 14 (by decide)
  have ho : ∀ u, ¬ (3 * s 3 (s 31 r) ≤ u ∧ u < 3 * s 3 (s 31 r) + 3) → ¬ zoth3 (zre s 12) t3 u := fun u hu => by
    obtain ⟨o1, o2⟩ := wo1 u hu
    have o3 := wo2 u hu
    unfold zoth3 zoth2
    rw [y12, y13, y14, o3, w12, w13, w14, o1, o2]
    rintro ((z | z) | z) <;> exact z rfl
  obtain ⟨h4, c4, C4, F4⟩ := zc60 C3 v0.1 v0.2 ho
  have F := ((F1.tr F2).tr F3).tr F4
  have W4 : zWf (zco (zre s 12) t3 12) := by
    rw [zco_12 (fun u hu z => ho u (by omega) (Or.inl z))]
    exact zco_W W3
  have hcr := zgc_r (s := t1) (r := r) 3
  refine ⟨zgc t1 r 3, hcr.1, hcr.2, W4, h4, ?_, C4, F.1, by rw [F.2.1]; omega, by rw [F.2.2]; omega⟩
  obtain ⟨b, b1, b2⟩ := zc10 cR wR q.1 q.2
  rw [b1.u (zbo_0 d)] at b2
  have cr3 : zCr h3 := C3.1.1
  have cA3 : zCA h3 t3 := C3.1.2.2.1
  have cR3 : zCR h3 t3 := C3.1.2.2.2.2.1
  have cV3 : zCV h3 t3 := C3.1.2.2.2.2.2.2.2.2.1
  have k30 : t3 30 = s 30 := (xj 30 (by decide)).trans g30
  have k31 : t3 31 = s 31 := (xj 31 (by decide)).trans g31
  have k2 : t3 2 = s 2 := (xj 2 (by decide)).trans ((w2.1 2 (by decide) (by decide) (by decide)).trans e2)
  have k3 : t3 3 = s 3 := (xj 3 (by decide)).trans ((w2.1 3 (by decide) (by decide) (by decide)).trans e3)
  have g1 : zr h3 5 r.toNat 0 = some (0, (s 31 r).toNat) := by
    have := zCrA cR3 q.1 (by rw [k30]; exact q.2)
    rwa [k31] at this
  have g2 : zi h3 0 (s 31 r).toNat 1 = zE (s 3 (s 31 r)) := by
    have := zCa1 cA3 a0.1 (by rw [k2]; exact a0.2)
    rwa [k3] at this
  have e56 : zm56 (some (12, 0)) (some (5, r.toNat)) h = some (.inl (zE (zgc t1 r 3)), h3) := by
    rw [zm56, zo_5, zo_12, zCrA cR q.1 q.2, c1, zb_s, zE_0, c2, zm56_24, zo_12, zE_3, c3, zb_s]
  show zm55 (some (12, 0)) (zE r) h = some (.inl (zE (zgc t1 r 3)), h4)
  rw [zm55, zo_12, zLRz cr cR, zc130 x1 x2 (by omega) (by omega), if_pos q, zb_s, zLRg cr cR (by omega) q.1 q.2, zo_5, b2, zb_s, zE_0, if_pos rfl, e56, zb_s, g1, zo_0, g2, zLVa cr3 cV3 v0.1 v0.2, c4, zb_s]
theorem zk_pass {h : zH} {s : zS} {x : Int} (hC : zCl h s) (hW : zWf s) (q : 1 ≤ x ∧ x ≤ 200) (d : s 1 0 + x ≤ 20000) : ∃ c : Int, zDo h (zdyN s x.toNat) (zm73 (some (12, 0)) (zE x) h) (zE c) := by
  have hd := hW.2.2.2.1.1
  have cs : zCs h s := hC.2.1
  have ea : (1 : Int32) = zE 1 := zE_1
  have eb : (200 : Int32) = zE 200 := (Int32.ofInt_eq_ofNat (n := 200)).symm
  have ec : (20000 : Int32) = zE 20000 := (Int32.ofInt_eq_ofNat (n := 20000)).symm
  have c131 := zc131 (h := h) (x := x) (lo := 1) (hi := 200) (by omega) (by omega) (by omega) (by omega) (by omega) (by omega)
  rw [← ea, ← eb] at c131
  have W0 : zWf s := hW
  have C0 : zCl h s := hC
  obtain ⟨s0, hs⟩ : ∃ s0, s0 = s := ⟨_, rfl⟩
  have n0 : s0 1 0 = s 1 0 := by rw [hs]
  rw [← hs] at W0 C0
  obtain ⟨Wx, -, Zx⟩ := zdyN_W W0 x.toNat (by omega)
  have LC : ∃ h', zm73_19 zN0 (some (12, 0)) (zE x) (zE (zdyK s0 (0 : Int).toNat)) (zE 0) h = some (.inl (zE (zdyK s0 x.toNat)), h') ∧ zCl h' (zdyN s0 x.toNat) ∧ zfrC h h' := by
    refine zloop0 (W := fun n i hx => zm73_19 n (some (12, 0)) (zE x) (zE (zdyK s0 i.toNat)) (zE i) hx) (N := x) (fun i hx => zCl hx (zdyN s0 i.toNat) ∧ zfrC h hx) (fun q => ∃ h', q = some (.inl (zE (zdyK s0 x.toNat)), h') ∧ zCl h' (zdyN s0 x.toNat) ∧ zfrC h h') h ⟨C0, zfrC.rf⟩ (by omega) (by omega) ?_ ?_
    · intro n hx ⟨q1, q2⟩
      exact ⟨hx, by rw [zm73_19, if_pos (Int32.le_refl _)], q1, q2⟩
    · intro n i hx i0 i1 ⟨q1, q2⟩
      obtain ⟨a1, a2, -⟩ := zdyN_W W0 i.toNat (by omega)
      obtain ⟨h', b1, b2, b3⟩ := zc73_19 (n := n) (x := x) (c := zdyK s0 i.toNat) (i := i) q1 a1 (by omega) i1 i0 q.2
      refine Or.inr ⟨h', ⟨by rw [zdyN_i i0]; exact b2, q2.tr b3⟩, ?_⟩
      show zm73_19 (n + 1) (some (12, 0)) (zE x) (zE (zdyK s0 i.toNat)) (zE i) hx = zm73_19 n (some (12, 0)) (zE x) (zE (zdyK s0 (i + 1).toNat)) (zE (i + 1)) h'
      rw [b1, zdyK_i i0]
  obtain ⟨h1, l1, l2, l3⟩ := LC
  rw [show zdyK s0 (0 : Int).toNat = 0 from rfl, ← zE_0] at l1
  rw [← hs]
  refine ⟨zdyK s0 x.toNat, Wx, h1, ?_, l2, l3.1, by rw [l3.2.1]; omega, by rw [l3.2.2]; omega⟩
  rw [zm73, c131, if_pos q, zb_s, zo_12, zCs11 cs, zE_add, ec, if_pos (by rw [zE_le (by omega) (by omega) (by omega) (by omega)]; exact d), l1]
theorem zk_measure {h : zH} {s : zS} {x y c b m : Int} (hC : zCl h s) (hW : zWf s) (hc : c = 0 ∨ c = 1) (hb : b = 0 ∨ b = 1) (q : (0 ≤ x ∧ x ≤ 3) ∧ 0 ≤ y ∧ y ≤ 2) (qm : 0 ≤ m ∧ m ≤ 60000) (f1 : s 13 (3 * x + y) ≠ -1) (f2 : s 12 (3 * x + y) ≠ -1) (f3 : s 46 0 < 600) : zDo h (zadS (zup s 46 0 (s 46 0 + 1)) (2 * (3 * x + y) + c) b m) (zm101 (some (12, 0)) (zE x) (zE y) (zE c) (zE b) (zE m) h) (zE (s 47 (2 * (3 * x + y) + c) + 1)) := by
  have cr : zCr h := hC.1
  have cs : zCs h s := hC.2.1
  have cV : zCV h s := hC.2.2.2.2.2.2.2.2.1
  have cK : zCK h s := hC.2.2.2.2.2.2.2.2.2.1
  have wM := hW.2.2.2.2.2.2.2.2.2.2.1
  have hn := hW.1.1
  obtain ⟨d1, d2⟩ := zc132 (h := h) (a := x) (b := y) cr cV (by omega) (by omega) (by omega) (by omega)
  have c131 := zc131 (h := h) (x := m) (lo := 0) (hi := 60000) (by omega) (by omega) (by omega) (by omega) (by omega) (by omega)
  obtain ⟨k, hk⟩ : ∃ k, k = 3 * x + y := ⟨_, rfl⟩
  rw [← hk] at f1 f2 ⊢
  have k0 : 0 ≤ k := by omega
  have k1 : k < 12 := by omega
  have wk := hW.2.1 k k0 k1
  have d1 := d1 q
  rw [← hk] at d1
  have w1 := wk.1
  have w2 := wk.2.1
  have m0 := wM.1
  have C0 : zm101 (some (12, 0)) (zE x) (zE y) (zE c) (zE b) (zE m) h = if zrf 0 (s 13 k) = none then some (.inr 1, zro h 1 6) else if zrf 0 (s 12 k) = none then some (.inr 1, zro h 1 6) else if zE (s 46 0) < zE 600 then zb (zm32 (some (10, k.toNat)) (zE c) (zE b) (zE m) (zsi h 12 0 16 (zE (s 46 0 + 1)))) fun x38 h37 => some (.inl x38, h37) else some (.inr 1, zro h 1 6) := by
    rw [zm101, zo_12, d1, zb_s, zE_0, zE_60000, c131, if_pos qm, zb_s, zo_10, zCk1 cK k0 k1, zCk0 cK k0 k1, zCs16 cs, zE_600, zE_1, zE_add, zlet_s]
  have n46 : s 46 0 < 600 := by omega
  obtain ⟨w, hw⟩ : ∃ w, w = 2 * k + c := ⟨_, rfl⟩
  have w0 : 0 ≤ w := by omega
  have w1' : w < 24 := by omega
  have wu := (wM.2 w w0 w1').1
  have Wm : zWm (zadS (zup s 46 0 (s 46 0 + 1)) w b m) := zad_W wM n46 w0 w1' hb qm.1 qm.2
  obtain ⟨h1, e1, e2, e3, e4, e5⟩ := zc32 (k := k) (c := c) (b := b) (m := m) (zw_12_16 (x := s 46 0 + 1) hC) (by rw [← hw]; exact Wm) (fun u u0 u1 => by
    have := (wM.2 u u0 u1).1
    show 0 ≤ s 47 u ∧ s 47 u ≤ 600
    omega) k0 k1 hc (by
    rw [← hw]
    show s 47 w < 600
    omega) hb qm.1 qm.2
  rw [← hw] at e1 e2
  have e1 : zm32 (some (10, k.toNat)) (zE c) (zE b) (zE m) (zsi h 12 0 16 (zE (s 46 0 + 1))) = some (.inl (zE (s 47 w + 1)), h1) := e1
  have W' : zWf (zadS (zup s 46 0 (s 46 0 + 1)) w b m) := by
    obtain ⟨wA, wK, wC, wD, wP, wR, wZ, wT, wG, wE, wMM, wX⟩ := hW
    exact ⟨wA, wK, wC, wD, wP, wR, wZ, wT, wG, wE, Wm, wX⟩
  rw [← hw]
  refine ⟨W', h1, ?_, e2, ?_, ?_, ?_⟩
  · rw [C0, if_neg (by rw [zrf_z w2.1]; exact f1), if_neg (by rw [zrf_z w1.1]; exact f2), if_pos (by rw [zE_lt (by omega) (by omega) (by omega) (by omega)]; exact n46), e1, zb_s]
  · exact (zKp_i (fun z => z (by unfold zpc1; decide))).tr e3
  · exact Nat.le_trans e4 (by show zce h + 1 ≤ _; omega)
  · exact Nat.le_trans e5 (by show zso h + 2000 ≤ _; omega)
