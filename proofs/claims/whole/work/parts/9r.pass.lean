set_option maxRecDepth 16384
/-! pass: both sides. -/
def zdy1 (s : zS) : zS := zlg0 (zdx (zup s 1 0 (s 1 0 + 1)) 4) (s 58 0).toNat
noncomputable def zdy2 (s : zS) : zS := ztuN (zdy1 s) 1 (s 30 0).toNat
noncomputable def zdy3 (s : zS) : zS := ztuN (zdy2 s) 0 (s 30 0).toNat
noncomputable def zdyC (s : zS) : Int := ztuC (zdy1 s) 1 (s 30 0).toNat + ztuC (zdy2 s) 0 (s 30 0).toNat
noncomputable def zdyN (s : zS) : Nat → zS
  | 0 => s
  | n + 1 => zdy3 (zdyN s n)
noncomputable def zdyK (s : zS) : Nat → Int
  | 0 => 0
  | n + 1 => zdyK s n + zdyC (zdyN s n)
theorem zdyN_i {s : zS} {i : Int} (i0 : 0 ≤ i) : zdyN s (i + 1).toNat = zdy3 (zdyN s i.toNat) := by
  rw [show (i + 1).toNat = i.toNat + 1 by omega]
  rfl
theorem zdyK_i {s : zS} {i : Int} (i0 : 0 ≤ i) : zdyK s (i + 1).toNat = zdyK s i.toNat + zdyC (zdyN s i.toNat) := by
  rw [show (i + 1).toNat = i.toNat + 1 by omega]
  rfl
theorem zdx_j {s : zS} (hW : zWf s) : ∀ j, j ≠ 20 → j ≠ 24 → zdx (zup s 1 0 (s 1 0 + 1)) 4 j = zup s 1 0 (s 1 0 + 1) j := by
  obtain ⟨wA, wK, wC, wD, wP, wR, wZ, wT, wG, wE, wM, wX⟩ := hW
  exact (zdb_x (t := zup s 1 0 (s 1 0 + 1)) wA wK (fun v v0 v1 => ⟨(wD.2.2 v v0 v1).2.1, (wD.2.2 v v0 v1).2.2.1⟩) (fun x x0 x1 => (wD.2.1 x x0 x1).1) (fun v v0 v1 => (wD.2.2 v v0 v1).2.2.2.1.1) 4 (Nat.le_refl _)).1
theorem zdy_W {s : zS} (hW : zWf s) (hd : s 1 0 < 20000) : zWf (zdx (zup s 1 0 (s 1 0 + 1)) 4) ∧ (zWf (zdy1 s) ∧ zdy1 s 30 = s 30 ∧ (s 0 0 = 0 → zdy1 s 0 0 = 0)) ∧ (zWf (zdy2 s) ∧ zdy2 s 30 = s 30 ∧ (s 0 0 = 0 → zdy2 s 0 0 = 0)) ∧ zWf (zdy3 s) ∧ zdy3 s 1 0 = s 1 0 + 1 ∧ (s 0 0 = 0 → zdy3 s 0 0 = 0) := by
  have h20 := hW.2.2.2.2.2.1.1
  have h6 := hW.2.2.2.2.2.2.2.1.1
  have W1 := zdx_W hW hd
  have x1 := zdx_j hW
  have e58 : zdx (zup s 1 0 (s 1 0 + 1)) 4 58 = s 58 := x1 58 (by decide) (by decide)
  have W2 : zWf (zdy1 s) := zlg0_W W1 (s 58 0).toNat (by rw [e58]; omega)
  have k : ∀ j, j ≠ 20 → j ≠ 24 → j ≠ 40 → j ≠ 37 → j ≠ 60 → zdy1 s j = zup s 1 0 (s 1 0 + 1) j := fun j a b c d e => (zlg0_j c d e _).trans (x1 j a b)
  have k30 : zdy1 s 30 = s 30 := k 30 (by decide) (by decide) (by decide) (by decide) (by decide)
  have k1 : zdy1 s 1 0 = s 1 0 + 1 := by
    rw [k 1 (by decide) (by decide) (by decide) (by decide) (by decide)]
    exact zup_s
  have k0 : s 0 0 = 0 → zdy1 s 0 0 = 0 := fun z => by
    rw [k 0 (by decide) (by decide) (by decide) (by decide) (by decide)]
    exact z
  obtain ⟨W3, a0, aj⟩ := ztuN_W (p := 1) W2 (s 30 0).toNat (by rw [k30]; omega)
  have a30 : zdy2 s 30 = s 30 := (aj 30 (by unfold zjn; decide) (by decide) (by decide)).trans k30
  have a1 : zdy2 s 1 = zdy1 s 1 := aj 1 (by unfold zjn; decide) (by decide) (by decide)
  obtain ⟨W4, b0, bj⟩ := ztuN_W (s := zdy2 s) (p := 0) W3 (s 30 0).toNat (by rw [a30]; omega)
  have b1 : zdy3 s 1 = zdy2 s 1 := bj 1 (by unfold zjn; decide) (by decide) (by decide)
  exact ⟨W1, ⟨W2, k30, k0⟩, ⟨W3, a30, fun z => a0 (k0 z)⟩, W4, by rw [b1, a1]; exact k1, fun z => b0 (a0 (k0 z))⟩
theorem zdyN_W {s : zS} (hW : zWf s) : ∀ n : Nat, s 1 0 + n ≤ 20000 → zWf (zdyN s n) ∧ zdyN s n 1 0 = s 1 0 + n ∧ (s 0 0 = 0 → zdyN s n 0 0 = 0)
  | 0, _ => ⟨hW, by
      show s 1 0 = s 1 0 + ((0 : Nat) : Int)
      omega, fun z => z⟩
  | n + 1, hn => by
    obtain ⟨a1, a2, a3⟩ := zdyN_W hW n (by omega)
    obtain ⟨-, -, -, b1, b2, b3⟩ := zdy_W a1 (by omega)
    exact ⟨b1, by
      show zdy3 (zdyN s n) 1 0 = _
      omega, fun z => b3 (a3 z)⟩
theorem zday {s : zS} (hW : zWf s) : (∀ v, 0 ≤ v → v < 4 → (0 ≤ zup s 1 0 (s 1 0 + 1) 22 v ∧ zup s 1 0 (s 1 0 + 1) 22 v ≤ 7) ∧ -1 ≤ zup s 1 0 (s 1 0 + 1) 23 v ∧ zup s 1 0 (s 1 0 + 1) 23 v ≤ 7) ∧ (∀ x, 0 ≤ x → x < 32 → 0 ≤ zup s 1 0 (s 1 0 + 1) 20 x ∧ zup s 1 0 (s 1 0 + 1) 20 x ≤ 300000) ∧ ∀ v, 0 ≤ v → v < 4 → 0 ≤ zup s 1 0 (s 1 0 + 1) 24 v := by
  have wD := hW.2.2.2.1
  refine ⟨fun v v0 v1 => ⟨(wD.2.2 v v0 v1).2.1, (wD.2.2 v v0 v1).2.2.1⟩, fun x x0 x1 => ?_, fun v v0 v1 => (wD.2.2 v v0 v1).2.2.2.1.1⟩
  have a := wD.2.1 x x0 x1
  have b := wD.1
  show 0 ≤ s 20 x ∧ s 20 x ≤ 300000
  omega
/-- a day, the class -/
theorem zc73_19 {h : zH} {s : zS} {x c i : Int} {n : Nat} (hC : zCl h s) (hW : zWf s) (hd : s 1 0 < 20000) (hx : i < x) (x0 : 0 ≤ i) (x1 : x ≤ 200) : ∃ h', zm73_19 (n + 1) (some (12, 0)) (zE x) (zE c) (zE i) h = zm73_19 n (some (12, 0)) (zE x) (zE (c + zdyC s)) (zE (i + 1)) h' ∧ zCl h' (zdy3 s) ∧ zfrC h h' := by
  obtain ⟨W1, ⟨W2, k30, -⟩, ⟨W3, a30, -⟩, W4, -, -⟩ := zdy_W hW hd
  have xj := zdx_j hW
  have e58 : zdx (zup s 1 0 (s 1 0 + 1)) 4 58 = s 58 := xj 58 (by decide) (by decide)
  obtain ⟨d1, d2, d3⟩ := zday hW
  have cs : zCs h s := hC.2.1
  have C0 := zw_12_11 (x := s 1 0 + 1) hC
  obtain ⟨h1, e1, C1, F1⟩ := zc73_30 (x1 := zE x) (x2 := zE c) (x3 := zE i) (k := zm73_40 (zm73_19 n)) C0 hW.1 hW.2.1 d1 d2 d3
  obtain ⟨h2, e2, C2, F2⟩ := zc74 C1 W1
  rw [e58] at C2
  have C2 : zCl h2 (zdy1 s) := C2
  obtain ⟨h3, e3, C3, F3⟩ := zc76 (p := 1) C2 W2 (Or.inr rfl)
  rw [k30] at e3 C3
  have C3 : zCl h3 (zdy2 s) := C3
  obtain ⟨h4, e4, C4, F4⟩ := zc76 (p := 0) C3 W3 (Or.inl rfl)
  rw [a30] at e4 C4
  refine ⟨h4, ?_, C4, ((zfrC_i (by unfold zpc1; decide)).tr ((F1.tr F2).tr (F3.tr F4)))⟩
  rw [zm73_19, if_neg (by rw [zE_le (by omega) (by omega) (by omega) (by omega)]; omega), zo_12, zCs11 cs, zE_1, zE_add, zlet_s, zE_0, e1, zm73_40, zo_12, e2, zb_s, zE_1, e3, zb_s, zE_add, zlet_s, zE_0, e4, zb_s, zE_add, zlet_s, zE_add, zlet_s, Int.add_assoc]
  rfl
/-- a day, the model -/
theorem zp186_27 {h : zH} {s : zS} {x c i : Int} {n : Nat} (hM : zMd h s) (hW : zWf s) (s0 : s 0 0 = 0) (hd : s 1 0 < 20000) (hx : i < x) (x0 : 0 ≤ i) (x1 : x ≤ 200) : ∃ h', zm186_27 (n + 1) (some (13, 0)) (zE x) (zE c) (zE i) h = zm186_27 n (some (13, 0)) (zE x) (zE (c + zdyC s)) (zE (i + 1)) h' ∧ zMd h' (zdy3 s) ∧ zfrM h h' := by
  obtain ⟨W1, ⟨W2, k30, k0⟩, ⟨W3, a30, a0⟩, W4, -, -⟩ := zdy_W hW hd
  have xj := zdx_j hW
  have e58 : zdx (zup s 1 0 (s 1 0 + 1)) 4 58 = s 58 := xj 58 (by decide) (by decide)
  obtain ⟨d1, d2, d3⟩ := zday hW
  have M0 : zMd (zsi h 13 0 1 (zE (s 1 0 + 1))) (zup s 1 0 (s 1 0 + 1)) := hM.ws 1 (by decide) _
  obtain ⟨h1, e1, M1, F1⟩ := zp183 M0 hW.1 hW.2.1 d1 d2 d3
  obtain ⟨h2, e2, M2, F2⟩ := zp184 M1 W1
  rw [e58] at M2
  have M2 : zMd h2 (zdy1 s) := M2
  have big : ∃ m, zN0 = m + 1 + 1 + 1 := ⟨zN0 - 3, rfl⟩
  obtain ⟨m, hm⟩ := big
  obtain ⟨h3, e3, M3, F3⟩ := zp186_47 (p := 1) (y := 0) (c := c) (x1 := zE x) (x3 := zE i) (k := zm186_76 (zm186_42 (zm186_78 (zm186_27 n)) (m + 1 + 1))) M2 W2 (k0 s0) (Or.inl ⟨rfl, rfl⟩)
  rw [k30] at e3 M3
  have M3 : zMd h3 (zdy2 s) := M3
  obtain ⟨h4, e4, M4, F4⟩ := zp186_47 (p := 0) (y := 1) (c := c + ztuC (zdy1 s) 1 (s 30 0).toNat) (x1 := zE x) (x3 := zE i) (k := zm186_76 (zm186_42 (zm186_78 (zm186_27 n)) (m + 1))) M3 W3 (a0 s0) (Or.inr ⟨rfl, rfl⟩)
  rw [a30] at e4 M4
  have l2 : ¬ zE 2 ≤ zE 0 := by decide
  have l3 : ¬ zE 2 ≤ zE 1 := by decide
  have t1 : zE 0 + 1 = zE 1 := by decide
  have t2 : zE 1 + 1 = zE 2 := by decide
  have g : zm186_42 (zm186_78 (zm186_27 n)) zN0 (some (13, 0)) (zE x) (zE c) (zE i) (zE 0) h2 = zm186_27 n (some (13, 0)) (zE x) (zE (c + zdyC s)) (zE (i + 1)) h4 := by
    have g3 : zm186_42 (zm186_78 (zm186_27 n)) (m + 1) (some (13, 0)) (zE x) (zE (c + ztuC (zdy1 s) 1 (s 30 0).toNat + ztuC (zdy2 s) 0 (s 30 0).toNat)) (zE i) (zE 2) h4 = zm186_27 n (some (13, 0)) (zE x) (zE (c + zdyC s)) (zE (i + 1)) h4 := by
      rw [zm186_42, zE_2, if_pos (Int32.le_refl _), zm186_78, zlet_s, zE_1, zE_add, Int.add_assoc]
      rfl
    have g2 : zm186_42 (zm186_78 (zm186_27 n)) (m + 1 + 1) (some (13, 0)) (zE x) (zE (c + ztuC (zdy1 s) 1 (s 30 0).toNat)) (zE i) (zE 1) h3 = zm186_27 n (some (13, 0)) (zE x) (zE (c + zdyC s)) (zE (i + 1)) h4 := by
      rw [zm186_42, zE_2, if_neg l3, zE_0, e4, zm186_76, zlet_s, t2, g3]
    rw [hm, zm186_42, zE_2, if_neg l2, zE_0, e3, zm186_76, zlet_s, t1, g2]
  refine ⟨h4, ?_, M4, (zfrM_i (Or.inl rfl)).tr ((F1.tr F2).tr (F3.tr F4))⟩
  rw [zm186_27, if_neg (by rw [zE_le (by omega) (by omega) (by omega) (by omega)]; omega), zM_ob, zMs1 hM, zE_1, zE_add, zlet_s, e1, zb_s, e2, zb_s, zE_0, g]
theorem zr_pass (x : Int32) : zPrI (fun h => zm73 (some (12, 0)) x h) (fun h => zm186 (some (13, 0)) x h) (fun t => if t = 1 then 0 else 1) 2 := by
  intro h s hC hM hW
  obtain ⟨x, rfl, x1, x2⟩ := zE_ex x
  have z1 : ¬ zE 1 = (0 : Int32) := by decide
  have hd := hW.2.2.2.1.1
  have cs : zCs h s := hC.2.1
  have ea : (1 : Int32) = zE 1 := zE_1
  have eb : (200 : Int32) = zE 200 := (Int32.ofInt_eq_ofNat (n := 200)).symm
  have ec : (20000 : Int32) = zE 20000 := (Int32.ofInt_eq_ofNat (n := 20000)).symm
  have c131 := zc131 (h := h) (x := x) (lo := 1) (hi := 200) x1 x2 (by omega) (by omega) (by omega) (by omega)
  rw [← ea, ← eb] at c131
  have p139 : ∀ h' : zH, ∃ b, zbo b (1 ≤ x ∧ x ≤ 200) ∧ zm139 (zE x) 1 200 h' = some (.inl (zE b), h') := fun h' => by
    have := zp139i (h := h') (x := x) (lo := 1) (hi := 200) x1 x2 (by omega) (by omega) (by omega) (by omega)
    rwa [← ea, ← eb] at this
  by_cases q : 1 ≤ x ∧ x ≤ 200
  · by_cases d : s 1 0 + x ≤ 20000
    · have W0 : zWf (zup s 0 0 0) := hW.sc zsc_up
      have C0 : zCl h (zup s 0 0 0) := hC.sc zsc_up
      have n0 : zup s 0 0 0 1 0 = s 1 0 := rfl
      have z0 : zup s 0 0 0 0 0 = 0 := zup_s
      generalize hs : zup s 0 0 0 = s0 at *
      obtain ⟨Wx, -, Zx⟩ := zdyN_W W0 x.toNat (by omega)
      have LC : ∃ h', zm73_19 zN0 (some (12, 0)) (zE x) (zE (zdyK s0 (0 : Int).toNat)) (zE 0) h = some (.inl (zE (zdyK s0 x.toNat)), h') ∧ zCl h' (zdyN s0 x.toNat) ∧ zfrC h h' := by
        refine zloop0 (W := fun n i hx => zm73_19 n (some (12, 0)) (zE x) (zE (zdyK s0 i.toNat)) (zE i) hx) (N := x) (fun i hx => zCl hx (zdyN s0 i.toNat) ∧ zfrC h hx) (fun q => ∃ h', q = some (.inl (zE (zdyK s0 x.toNat)), h') ∧ zCl h' (zdyN s0 x.toNat) ∧ zfrC h h') h ⟨C0, zfrC.rf⟩ (by omega) (by omega) ?_ ?_
        · intro n hx ⟨q1, q2⟩
          exact ⟨hx, by rw [zm73_19, if_pos (Int32.le_refl _)], q1, q2⟩
        · intro n i hx i0 i1 ⟨q1, q2⟩
          obtain ⟨a1, a2, -⟩ := zdyN_W W0 i.toNat (by omega)
          obtain ⟨h', b1, b2, b3⟩ := zc73_19 (n := n) (x := x) (c := zdyK s0 i.toNat) (i := i) q1 a1 (by omega) i1 i0 q.2
          refine Or.inr ⟨h', ⟨by rw [zdyN_i i0]; exact b2, q2.tr b3⟩, ?_⟩
          show zm73_19 (n + 1) (some (12, 0)) (zE x) (zE (zdyK s0 i.toNat)) (zE i) hx = zm73_19 n (some (12, 0)) (zE x) (zE (zdyK s0 (i + 1).toNat)) (zE (i + 1)) h'
          rw [b1, zdyK_i i0]
      obtain ⟨h1, l1, l2, l3⟩ := LC
      rw [show zdyK s0 (0 : Int).toNat = 0 from rfl, ← zE_0] at l1
      refine zokI (v := zdyK s0 x.toNat) (by omega) Wx (h1 := h1) ?_ l2 l3.1 (by rw [l3.2.1]; omega) (by rw [l3.2.2]; omega) (fun h' hM' => ?_)
      · show zm73 (some (12, 0)) (zE x) h = _
        rw [zm73, c131, if_pos q, zb_s, zo_12, zCs11 cs, zE_add, ec, if_pos (by rw [zE_le (by omega) (by omega) (by omega) (by omega)]; exact d), l1]
      · have M0 : zMd (zsi h' 13 0 0 (zE 0)) s0 := by rw [← hs]; exact hM'.ws 0 (by decide) 0
        have LM : ∃ h2, zm186_27 zN0 (some (13, 0)) (zE x) (zE (zdyK s0 (0 : Int).toNat)) (zE 0) (zsi h' 13 0 0 (zE 0)) = some (.inl (zE (zdyK s0 x.toNat)), h2) ∧ zMd h2 (zdyN s0 x.toNat) ∧ zfrM h' h2 := by
          refine zloop0 (W := fun n i hx => zm186_27 n (some (13, 0)) (zE x) (zE (zdyK s0 i.toNat)) (zE i) hx) (N := x) (fun i hx => zMd hx (zdyN s0 i.toNat) ∧ zfrM h' hx) (fun q => ∃ h2, q = some (.inl (zE (zdyK s0 x.toNat)), h2) ∧ zMd h2 (zdyN s0 x.toNat) ∧ zfrM h' h2) _ ⟨M0, zfrM_i (Or.inl rfl)⟩ (by omega) (by omega) ?_ ?_
          · intro n hx ⟨q1, q2⟩
            exact ⟨hx, by rw [zm186_27, if_pos (Int32.le_refl _)], q1, q2⟩
          · intro n i hx i0 i1 ⟨q1, q2⟩
            obtain ⟨a1, a2, a3⟩ := zdyN_W W0 i.toNat (by omega)
            obtain ⟨h2, b1, b2, b3⟩ := zp186_27 (n := n) (x := x) (c := zdyK s0 i.toNat) (i := i) q1 a1 (a3 z0) (by omega) i1 i0 q.2
            refine Or.inr ⟨h2, ⟨by rw [zdyN_i i0]; exact b2, q2.tr b3⟩, ?_⟩
            show zm186_27 (n + 1) (some (13, 0)) (zE x) (zE (zdyK s0 i.toNat)) (zE i) hx = zm186_27 n (some (13, 0)) (zE x) (zE (zdyK s0 (i + 1).toNat)) (zE (i + 1)) h2
            rw [b1, zdyK_i i0]
        obtain ⟨h2, m1, m2, m3⟩ := LM
        rw [show zdyK s0 (0 : Int).toNat = 0 from rfl, ← zE_0] at m1
        refine ⟨_, zsc.rf, Zx z0, h2, ?_, m2, m3⟩
        obtain ⟨b, b1, b2⟩ := p139 h'
        rw [b1.u (zbo_1 q)] at b2
        show zm186 (some (13, 0)) (zE x) h' = _
        rw [zm186, b2, zb_s, if_neg z1, zM_ob, zMs1 hM', zE_add, ec, if_pos (by rw [zE_le (by omega) (by omega) (by omega) (by omega)]; exact d), zm186_17, zM_ob, zlet_s, zM_ob]
        have k0 : zi (zsi h' 13 0 0 0) 13 0 0 = 0 := zi_s
        rw [k0, if_pos (Int32.le_refl _)]
        exact m1
    · refine zexI (t := 2) hC hW (by omega) (by omega) ?_ (fun h' hM' => ?_)
      · show zm73 (some (12, 0)) (zE x) h = some (.inr 1, zro h 1 6)
        rw [zm73, c131, if_pos q, zb_s, zo_12, zCs11 cs, zE_add, ec, if_neg (by rw [zE_le (by omega) (by omega) (by omega) (by omega)]; exact d)]
      · obtain ⟨b, b1, b2⟩ := p139 h'
        rw [b1.u (zbo_1 q)] at b2
        show zm186 (some (13, 0)) (zE x) h' = _
        have k0 : zi (zsi h' 13 0 0 2) 13 0 0 = 2 := zi_s
        rw [zm186, b2, zb_s, if_neg z1, zM_ob, zMs1 hM', zE_add, ec, if_neg (by rw [zE_le (by omega) (by omega) (by omega) (by omega)]; exact d), zm186_17, zM_ob, zlet_s, zM_ob, k0, if_neg (by decide), zE_0, zE_2]
  · refine zexI (t := 1) hC hW (by omega) (by omega) ?_ (fun h' hM' => ?_)
    · show zm73 (some (12, 0)) (zE x) h = some (.inr 0, zro h 1 6)
      rw [zm73, c131, if_neg q, zb_x]
    · obtain ⟨b, b1, b2⟩ := p139 h'
      rw [b1.u (zbo_0 q)] at b2
      show zm186 (some (13, 0)) (zE x) h' = _
      have k0 : zi (zsi h' 13 0 0 1) 13 0 0 = 1 := zi_s
      rw [zm186, b2, zb_s, if_pos zE_0.symm, zm186_17, zM_ob, zlet_s, zM_ob, k0, if_neg (by decide), zE_0, zE_1]
