set_option maxRecDepth 16384
/-! measure: both sides. -/
theorem zc20' {h : zH} {s : zS} (hC : zCM1 h s) (hM : zWm s) {w i : Int} (w0 : 0 ≤ w) (w1 : w < 24) (i0 : 0 ≤ i) (i1 : i < s 47 w) : zm20 (some (zsk w, (w / 2).toNat)) (zE i) h = some (.inl (zE (s 48 (600 * w + i))), h) := by
  obtain ⟨cd, -, m2⟩ := hC
  obtain ⟨⟨k1, -⟩, k2, k3, k4, k5, k6, k7, k8, k9⟩ := m2 w w0 w1
  have hm := hM.1
  obtain ⟨h2, h3⟩ := hM.2 w w0 w1
  obtain ⟨g1, g2⟩ := h3 i i0 i1
  have hb := zbk_16 g2.2
  obtain ⟨d1, d2⟩ := zcod_s hb.1 hb.2 g1.1 g1.2
  have hk : (ztg (cd w).1 == 1 || ztg (cd w).1 == 10) = true := by rcases k1 with z | z <;> rw [z] <;> rfl
  have e1 : ∀ f : Int32 → zRs Int32, zri (zr h (zsk w) (w / 2).toNat 0) (zE i) h f = f (zE (2 * zbk (s 49 (600 * w + i)) + s 48 (600 * w + i))) := fun f => zri_s (k := (cd w).1) (i := (cd w).2) k2 hk rfl i0 (by omega) (by omega) (k4 i i0 i1)
  have z1 : ¬ zE 0 = zE 1 := by decide
  rw [zm20, zE_0, if_neg (by rw [zE_lt (by omega) (by omega) (by omega) (by omega)]; omega), zo_7g, k5, if_neg (by rw [zE_le (by omega) (by omega) (by omega) (by omega)]; omega), e1, zE_1, d2]
  rcases (show s 48 (600 * w + i) = 0 ∨ s 48 (600 * w + i) = 1 by omega) with q | q
  · rw [q, if_neg z1]
  · rw [q, if_pos rfl]
theorem zc33' {h : zH} {s : zS} (hK : zCK h s) (hC : zCM1 h s) (hM : zWm s) {k i : Int} {c : UInt64} (k0 : 0 ≤ k) (k1 : k < 12) (i0 : 0 ≤ i) (i1 : i < s 47 (2 * k)) (i2 : i < s 47 (2 * k + 1)) (hc : FP.Core.val64 c ≠ .nan) : zm33 (some (10, k.toNat)) c (zE i) h = some (.inl (zcst c (s 48 (600 * (2 * k + 1) + i)) (s 48 (600 * (2 * k) + i))), h) := by
  have a1 := zc20' hC hM (w := 2 * k + 1) (by omega) (by omega) i0 i2
  have a2 := zc20' hC hM (w := 2 * k) (by omega) (by omega) i0 i1
  rw [zsk_1, zdv_1] at a1
  rw [zsk_0, zdv_0] at a2
  obtain ⟨g1, -⟩ := (hM.2 (2 * k + 1) (by omega) (by omega)).2 i i0 i2
  obtain ⟨g2, -⟩ := (hM.2 (2 * k) (by omega) (by omega)).2 i i0 i1
  unfold zcst
  by_cases e : zbig c
  · have eb : ∀ f g : zRs UInt64, (if 0 ≤ (Op.cmpValue (FP.dcmp c 4626322717216342016) .l) then f else g) = f := fun f g => if_pos e
    rw [if_pos (show 0 ≤ (Op.cmpValue (FP.dcmp c 4626322717216342016) .l) from e)]
    simp (discharger := omega) only [zm33, zm33_15, ↓zo_10, zCk5 hK, ↓zo_7, a1, ↓zb_s, ↓eb]
  · have eb : ∀ f g : zRs UInt64, (if 0 ≤ (Op.cmpValue (FP.dcmp c 4626322717216342016) .l) then f else g) = g := fun f g => if_neg e
    rw [if_neg (show ¬ 0 ≤ (Op.cmpValue (FP.dcmp c 4626322717216342016) .l) from e)]
    have hn : ∀ c : UInt64, FP.Core.val64 c ≠ .nan → ∀ f : zRs UInt64, zif (c &&& 0x7fffffffffffffff ≤ 0x7ff0000000000000) f = f := fun c hc f => zif_s (zF_nan.mpr hc)
    by_cases c1 : s 48 (600 * (2 * k + 1) + i) = s 48 (600 * (2 * k) + i)
    · rw [if_pos c1]
      simp (discharger := omega) only [zm33, zm33_15, ↓zo_10, zCk5 hK, zCk6 hK, ↓zo_7, ↓zo_8, a1, a2, ↓zb_s, ↓eb, c1, if_true]
    · rw [if_neg c1]
      by_cases c2 : s 48 (600 * (2 * k + 1) + i) = 0
      · rw [if_pos c2]
        rw [c2] at c1 a1
        simp (discharger := omega) only [zm33, zm33_15, ↓zo_10, zCk5 hK, zCk6 hK, ↓zo_7, ↓zo_8, a1, a2, ↓zb_s, ↓eb, zE_inj, c1, if_false, zE_0, zE_1, zE_2, zE_3, zE_4, zE_5, zE_6, zE_7, zE_8, zE_9, zE_10, zE_11, zE_12, zE_13, zE_14, zE_neg, if_true, hn _ (zF_mul hc zF_c5 (by decide))]
      · rw [if_neg c2]
        simp (discharger := omega) only [zm33, zm33_15, ↓zo_10, zCk5 hK, zCk6 hK, ↓zo_7, ↓zo_8, a1, a2, ↓zb_s, ↓eb, zE_inj, c1, c2, if_false, zE_0, zE_1, zE_2, zE_3, zE_4, zE_5, zE_6, zE_7, zE_8, zE_9, zE_10, zE_11, zE_12, zE_13, zE_14, zE_neg, hn _ (zF_mul hc zF_c15 (by decide))]
theorem zcpN_cg {s s' : zS} {k : Int} : ∀ n : Nat, (∀ x : Int, 0 ≤ x → x < n → s' 48 (600 * (2 * k + 1) + x) = s 48 (600 * (2 * k + 1) + x) ∧ s' 48 (600 * (2 * k) + x) = s 48 (600 * (2 * k) + x)) → zcpN s' k n = zcpN s k n
  | 0, _ => rfl
  | n + 1, h => by
    show zcst (zcpN s' k n) (s' 48 (600 * (2 * k + 1) + (n : Int))) (s' 48 (600 * (2 * k) + (n : Int))) = zcst (zcpN s k n) (s 48 (600 * (2 * k + 1) + (n : Int))) (s 48 (600 * (2 * k) + (n : Int)))
    obtain ⟨a, b⟩ := h n (by omega) (by omega)
    rw [zcpN_cg n (fun x a b => h x a (by omega)), a, b]
theorem zCl_ad {h h' : zH} {s : zS} {w b m : Int} (hC : zCl h s) (K : zKp (fun k => k ≠ 7 ∧ k ≠ 8 ∧ k ≠ 30 ∧ k ≠ 31 ∧ k ≠ 32 ∧ k ≠ 10) h h') (K1 : zr h' 10 = zr h 10) (K2 : zi h' 10 = zi h 10) (hM : zCM h' (zadS s w b m)) : zCl h' (zadS s w b m) := by
  have e : ∀ k, (k ≠ 7 ∧ k ≠ 8 ∧ k ≠ 30 ∧ k ≠ 31 ∧ k ≠ 32 ∧ k ≠ 10) → zct h' k = zct h k ∧ zln h' k = zln h k ∧ zi h' k = zi h k ∧ zr h' k = zr h k ∧ zd h' k = zd h k ∧ zl h' k = zl h k := fun k a => K k a
  obtain ⟨c1, c2, c3, c4, c5, c6, c7, c8, c9, c10, c11, c12, c13, c14⟩ := hC
  have d1 : zCr h' := by
    unfold zCr at c1 ⊢
    rw [(e 12 (by decide)).2.2.2.1]
    exact c1
  have d2 : zCs h' s := by
    unfold zCs at c2 ⊢
    rw [(e 12 (by decide)).2.2.1]
    exact c2
  have d3 : zCA h' s := by
    unfold zCA at c3 ⊢
    obtain ⟨-, -, a1, a2, -⟩ := e 0 (by decide)
    obtain ⟨-, b0, b1, b2, -⟩ := e 14 (by decide)
    obtain ⟨-, d0, d1, d2, -⟩ := e 21 (by decide)
    rw [a1, a2, b0, b1, b2, d0, d1]
    exact c3
  have d4 : zCP h' s := by
    unfold zCP at c4 ⊢
    obtain ⟨-, -, a1, a2, -⟩ := e 4 (by decide)
    obtain ⟨-, b0, b1, b2, -⟩ := e 15 (by decide)
    obtain ⟨-, d0, d1, d2, -⟩ := e 22 (by decide)
    obtain ⟨-, f0, f1, f2, -⟩ := e 23 (by decide)
    obtain ⟨-, g0, g1, g2, -⟩ := e 24 (by decide)
    rw [a1, a2, b0, b1, b2, d0, d1, f0, f1, g0, g1]
    exact c4
  have d5 : zCR h' s := by
    unfold zCR at c5 ⊢
    obtain ⟨-, -, a1, a2, -⟩ := e 5 (by decide)
    obtain ⟨-, b0, b1, b2, -⟩ := e 16 (by decide)
    obtain ⟨-, d0, d1, d2, -⟩ := e 25 (by decide)
    obtain ⟨-, f0, f1, f2, -⟩ := e 26 (by decide)
    rw [a1, a2, b0, b1, b2, d0, d1, f0, f2]
    exact c5
  have d6 : zCZ h' s := by
    unfold zCZ at c6 ⊢
    obtain ⟨-, -, a1, a2, -⟩ := e 3 (by decide)
    obtain ⟨-, b0, b1, b2, -⟩ := e 17 (by decide)
    rw [a1, b0, b1, b2]
    exact c6
  have d7 : zCT h' s := by
    unfold zCT at c7 ⊢
    obtain ⟨-, -, a1, a2, -⟩ := e 11 (by decide)
    obtain ⟨-, b0, b1, b2, -⟩ := e 18 (by decide)
    rw [a1, b0, b1, b2]
    exact c7
  have d8 : zCE h' s := by
    unfold zCE at c8 ⊢
    obtain ⟨-, -, a1, a2, -⟩ := e 1 (by decide)
    obtain ⟨-, b0, b1, b2, -⟩ := e 19 (by decide)
    rw [a1, b0, b1, b2]
    exact c8
  have d9 : zCV h' s := by
    unfold zCV at c9 ⊢
    obtain ⟨-, -, a1, a2, -⟩ := e 9 (by decide)
    obtain ⟨-, b0, b1, b2, -⟩ := e 33 (by decide)
    obtain ⟨-, d0, d1, d2, -⟩ := e 27 (by decide)
    obtain ⟨-, f0, f1, f2, -⟩ := e 28 (by decide)
    obtain ⟨-, g0, g1, g2, -⟩ := e 29 (by decide)
    rw [a1, a2, b0, b2, d0, d2, f0, f1, g0, g2]
    exact c9
  have d10 : zCK h' s := by
    unfold zCK at c10 ⊢
    rw [K1, K2]
    exact c10
  have d11 : zCG h' s := by
    unfold zCG at c11 ⊢
    obtain ⟨-, -, a1, a2, -⟩ := e 2 (by decide)
    obtain ⟨-, b0, b1, b2, -⟩ := e 34 (by decide)
    obtain ⟨-, d0, d1, d2, -⟩ := e 20 (by decide)
    obtain ⟨-, f0, f1, f2, -⟩ := e 6 (by decide)
    rw [a1, a2, b0, b2, d0, d1, d2, f1]
    exact c11
  have d12 : zCX h' s := by
    unfold zCX at c12 ⊢
    obtain ⟨-, a0, a1, a2, -⟩ := e 35 (by decide)
    obtain ⟨-, b0, b1, b2, -⟩ := e 36 (by decide)
    obtain ⟨-, d0, d1, d2, -⟩ := e 37 (by decide)
    rw [a0, a1, b0, b1, d0, d1]
    exact c12
  have d14 : zCN h' s := by
    unfold zCN at c14 ⊢
    rw [(e 0 (by decide)).1, (e 21 (by decide)).1, (e 4 (by decide)).1, (e 22 (by decide)).1, (e 23 (by decide)).1, (e 24 (by decide)).1, (e 5 (by decide)).1, (e 25 (by decide)).1, (e 26 (by decide)).1, (e 3 (by decide)).1, (e 11 (by decide)).1, (e 1 (by decide)).1, (e 6 (by decide)).1, (e 20 (by decide)).2.2.2.1]
    exact c14
  exact ⟨d1, d2, d3, d4, d5, d6, d7, d8, d9, d10, d11, d12, hM, d14⟩
theorem zc31 {h : zH} {s : zS} (hK : zCK h s) {k c : Int} (k0 : 0 ≤ k) (k1 : k < 12) (hc : c = 0 ∨ c = 1) : zm31 (some (10, k.toNat)) (zE c) h = some (.inl (some (zsk (2 * k + c), ((2 * k + c) / 2).toNat)), h) := by
  have z1 : ¬ zE 1 = zE 0 := by decide
  rcases hc with rfl | rfl
  · rw [zm31, zE_0, if_pos rfl, zo_10, zCk6 hK k0 k1, Int.add_zero, zsk_0, zdv_0]
  · rw [zm31, zE_0, if_neg z1, zo_10, zCk5 hK k0 k1, zsk_1, zdv_1]
theorem zc32 {h : zH} {s : zS} {k c b m : Int} (hC : zCl h s) (hM : zWm (zadS s (2 * k + c) b m)) (hu : ∀ u, 0 ≤ u → u < 24 → 0 ≤ s 47 u ∧ s 47 u ≤ 600) (k0 : 0 ≤ k) (k1 : k < 12) (hc : c = 0 ∨ c = 1) (hn : s 47 (2 * k + c) < 600) (hb : b = 0 ∨ b = 1) (m0 : 0 ≤ m) (m1 : m ≤ 60000) : ∃ h', zm32 (some (10, k.toNat)) (zE c) (zE b) (zE m) h = some (.inl (zE (s 47 (2 * k + c) + 1)), h') ∧ zCl h' (zadS s (2 * k + c) b m) ∧ zKp (fun k => ¬ zpc1 k) h h' ∧ zce h' ≤ zce h + 1 ∧ zso h' ≤ zso h + 2000 := by
  have z1 : ¬ zE 1 = zE 0 := by decide
  have cK : zCK h s := hC.2.2.2.2.2.2.2.2.2.1
  obtain ⟨⟨cd, cM1, cM2⟩, cM3⟩ := hC.2.2.2.2.2.2.2.2.2.2.2.2.1
  have w0 : 0 ≤ 2 * k + c := by omega
  have w1 : 2 * k + c < 24 := by omega
  have v0 : 0 ≤ 2 * k + (1 - c) := by omega
  have v1 : 2 * k + (1 - c) < 24 := by omega
  have nwv : 2 * k + (1 - c) ≠ 2 * k + c := by omega
  obtain ⟨H, a1, a2, a3, a4, a5, a6⟩ := zc19 (b := b) (m := m) ⟨cd, cM1, cM2⟩ w0 w1 hu hn hb m0 m1
  obtain ⟨-, -, x2, x3, -, -⟩ := a3 10 (by decide)
  have cK' : zCK H (zadS s (2 * k + c) b m) := by
    unfold zCK at cK
    unfold zCK
    rw [x2, x3]
    exact cK
  have e47 : ∀ u, zadS s (2 * k + c) b m 47 u = if u = 2 * k + c then s 47 (2 * k + c) + 1 else s 47 u := fun u => zad_47
  have hw := e47 (2 * k + c)
  rw [if_pos rfl] at hw
  have hv := e47 (2 * k + (1 - c))
  rw [if_neg nwv] at hv
  have hN := (hu _ w0 w1).1
  have hV := hu _ v0 v1
  have cnt : ∀ u, 0 ≤ u → u < 24 → zi H (zsk u) (u / 2).toNat 1 = zE (zadS s (2 * k + c) b m 47 u) := fun u u0 u1 => by
    obtain ⟨cd', -, y⟩ := a2
    exact (y u u0 u1).2.2.2.2.1
  have gw := cnt _ w0 w1
  rw [hw] at gw
  have gv := cnt _ v0 v1
  rw [hv] at gv
  have c31 := zc31 cK k0 k1 hc
  have c31' := zc31 cK' (c := 1 - c) k0 k1 (by omega)
  have hx := fun u x => zad_x (s := s) (w := 2 * k + c) (b := b) (m := m) (u := u) (x := x) ⟨hN, hn⟩
  -- what the capital is elsewhere
  have oth : ∀ u : Int, 0 ≤ u → u < 12 → u ≠ k → zcpN (zadS s (2 * k + c) b m) u (zprs (zadS s (2 * k + c) b m) u).toNat = zcpN s u (zprs s u).toNat := fun u u0 u1 ne => by
    have p1 := e47 (2 * u)
    rw [if_neg (by omega)] at p1
    have p2 := e47 (2 * u + 1)
    rw [if_neg (by omega)] at p2
    have ep : zprs (zadS s (2 * k + c) b m) u = zprs s u := by
      unfold zprs
      rw [p1, p2]
    rw [ep]
    refine zcpN_cg _ fun x x0 x1 => ?_
    have hp : zprs s u ≤ 600 := by
      unfold zprs
      have q1 := hu (2 * u) (by omega) (by omega)
      have q2 := hu (2 * u + 1) (by omega) (by omega)
      split <;> omega
    have hp0 : 0 ≤ zprs s u := by
      unfold zprs
      have q1 := hu (2 * u) (by omega) (by omega)
      have q2 := hu (2 * u + 1) (by omega) (by omega)
      split <;> omega
    exact ⟨(hx (2 * u + 1) x x0 (by omega) (Or.inl (by omega))).1, (hx (2 * u) x x0 (by omega) (Or.inl (by omega))).1⟩
  have mn : zprs s k = if s 47 (2 * k + (1 - c)) ≤ s 47 (2 * k + c) then s 47 (2 * k + (1 - c)) else s 47 (2 * k + c) := by
    unfold zprs
    rcases hc with rfl | rfl
    · rw [show 2 * k + (1 - 0) = 2 * k + 1 by omega, Int.add_zero]
      split <;> split <;> omega
    · rw [show 2 * k + (1 - 1) = 2 * k by omega]
      split <;> split <;> omega
  have mn' : zprs (zadS s (2 * k + c) b m) k = if s 47 (2 * k + (1 - c)) ≤ s 47 (2 * k + c) then s 47 (2 * k + (1 - c)) else s 47 (2 * k + c) + 1 := by
    rcases hc with rfl | rfl
    · have q0 := e47 (2 * k)
      rw [if_pos (by omega)] at q0
      have q1 := e47 (2 * k + 1)
      rw [if_neg (by omega)] at q1
      unfold zprs
      rw [q0, q1, show 2 * k + (1 - 0) = 2 * k + 1 by omega, Int.add_zero]
      split <;> split <;> omega
    · have q0 := e47 (2 * k)
      rw [if_neg (by omega)] at q0
      have q1 := e47 (2 * k + 1)
      rw [if_pos rfl] at q1
      unfold zprs
      rw [q0, q1, show 2 * k + (1 - 1) = 2 * k by omega]
      split <;> split <;> omega
  have sm : ∀ n : Nat, n ≤ s 47 (2 * k + c) → zcpN (zadS s (2 * k + c) b m) k n = zcpN s k n := fun n hn' => zcpN_cg _ fun x x0 x1 => ⟨(hx (2 * k + 1) x x0 (by omega) (by omega)).1, (hx (2 * k) x x0 (by omega) (by omega)).1⟩
  have go : zm32 (some (10, k.toNat)) (zE c) (zE b) (zE m) h = if zE (s 47 (2 * k + (1 - c))) < zE (s 47 (2 * k + c) + 1) then some (.inl (zE (s 47 (2 * k + c) + 1)), H) else zb (zm33 (some (10, k.toNat)) (zd H 10 k.toNat 4) (zE (s 47 (2 * k + c))) H) fun x41 h40 => zlet (zsd h40 10 k.toNat 4 x41) fun h42 => zm32_29 (some (zsk (2 * k + c), ((2 * k + c) / 2).toNat)) h42 := by
    have p16 : zm32_16 (some (10, k.toNat)) (some (zsk (2 * k + c), ((2 * k + c) / 2).toNat)) (zE (s 47 (2 * k + c) + 1)) (some (10, k.toNat)) (zE (1 - c)) H = if zE (s 47 (2 * k + (1 - c))) < zE (s 47 (2 * k + c) + 1) then some (.inl (zE (s 47 (2 * k + c) + 1)), H) else zb (zm33 (some (10, k.toNat)) (zd H 10 k.toNat 4) (zE (s 47 (2 * k + c))) H) fun x41 h40 => zlet (zsd h40 10 k.toNat 4 x41) fun h42 => zm32_29 (some (zsk (2 * k + c), ((2 * k + c) / 2).toNat)) h42 := by
      rw [zm32_16, zo_10, c31', zb_s, zo_7g, gv, zm32_29, zo_7g, gw, zo_10, zo_7g, gw, zE_1, zE_sub, show s 47 (2 * k + c) + 1 - 1 = s 47 (2 * k + c) by omega]
    rw [zm32, zo_10, c31, zb_s, zo_7g, a1, zb_s, gw]
    rcases hc with rfl | rfl
    · rw [if_pos zE_0.symm, zE_1, ← p16]
      rfl
    · rw [if_neg (by rw [zE_0]; exact z1), zE_0, ← p16]
      rfl
  have fr : zKp (fun k => ¬ zpc1 k) h H := a3.mn fun k hk => by
    have : ¬ zpc1 k := hk
    unfold zpc1 at this
    show k ≠ 7 ∧ k ≠ 8 ∧ k ≠ 30 ∧ k ≠ 31 ∧ k ≠ 32
    omega
  have fr2 : zKp (fun k => k ≠ 7 ∧ k ≠ 8 ∧ k ≠ 30 ∧ k ≠ 31 ∧ k ≠ 32 ∧ k ≠ 10) h H := a3.mn fun k hk => ⟨hk.1, hk.2.1, hk.2.2.1, hk.2.2.2.1, hk.2.2.2.2.1⟩
  rw [go]
  by_cases c1 : s 47 (2 * k + (1 - c)) ≤ s 47 (2 * k + c)
  · rw [if_pos c1] at mn mn'
    refine ⟨H, ?_, zCl_ad hC fr2 x3 x2 ⟨a2, fun u u0 u1 => ?_⟩, fr, by omega, by omega⟩
    · rw [if_pos (by rw [zE_lt (by omega) (by omega) (by omega) (by omega)]; omega)]
    · have ed : zd H 10 u.toNat 4 = zd h 10 u.toNat 4 := by rw [a4]
      rw [ed, cM3 u u0 u1]
      by_cases c2 : u = k
      · rw [c2, mn, mn', sm _ (by omega)]
      · exact (oth u u0 u1 c2).symm
  · rw [if_neg c1] at mn mn'
    have ed : zd H 10 k.toNat 4 = zcpN s k (s 47 (2 * k + c)).toNat := by
      rw [a4, cM3 k k0 k1, mn]
    have nn : FP.Core.val64 (zcpN s k (s 47 (2 * k + c)).toNat) ≠ .nan := zcpN_n s k _
    have i1 : s 47 (2 * k + c) < zadS s (2 * k + c) b m 47 (2 * k) := by
      rw [e47]
      split
      · omega
      · have e : s 47 (2 * k) = s 47 (2 * k + (1 - c)) := congrArg (s 47) (by omega)
        rw [e]; omega
    have i2 : s 47 (2 * k + c) < zadS s (2 * k + c) b m 47 (2 * k + 1) := by
      rw [e47]
      split
      · omega
      · have e : s 47 (2 * k + 1) = s 47 (2 * k + (1 - c)) := congrArg (s 47) (by omega)
        rw [e]; omega
    have e33 := zc33' cK' a2 hM k0 k1 hN i1 i2 nn
    obtain ⟨v, hv'⟩ : ∃ v, v = zcst (zcpN s k (s 47 (2 * k + c)).toNat) (zadS s (2 * k + c) b m 48 (600 * (2 * k + 1) + s 47 (2 * k + c))) (zadS s (2 * k + c) b m 48 (600 * (2 * k) + s 47 (2 * k + c))) := ⟨_, rfl⟩
    rw [← hv'] at e33
    rw [ed, e33, zb_s, zlet_s, if_neg (by rw [zE_lt (by omega) (by omega) (by omega) (by omega)]; omega), zm32_29, zo_7g]
    refine ⟨zsd H 10 k.toNat 4 v, ?_, zCl_ad hC (fr2.tr (zKp_d (fun z => z.2.2.2.2.2 rfl))) x3 x2 ⟨?_, fun u u0 u1 => ?_⟩, fr.tr (zKp_d (fun z => z (by unfold zpc1; decide))), a5, a6⟩
    · have : zi (zsd H 10 k.toNat 4 v) (zsk (2 * k + c)) ((2 * k + c) / 2).toNat 1 = zE (s 47 (2 * k + c) + 1) := gw
      rw [this]
    · exact a2
    · by_cases c2 : u = k
      · rw [c2, mn', show (s 47 (2 * k + c) + 1).toNat = (s 47 (2 * k + c)).toNat + 1 by omega]
        show zd (zsd H 10 k.toNat 4 v) 10 k.toNat 4 = zcst (zcpN (zadS s (2 * k + c) b m) k (s 47 (2 * k + c)).toNat) (zadS s (2 * k + c) b m 48 (600 * (2 * k + 1) + ((s 47 (2 * k + c)).toNat : Int))) (zadS s (2 * k + c) b m 48 (600 * (2 * k) + ((s 47 (2 * k + c)).toNat : Int)))
        rw [sm _ (by omega), Int.toNat_of_nonneg hN, ← hv']
        exact zd_sd
      · rw [oth u u0 u1 c2, ← cM3 u u0 u1]
        have : zd H 10 u.toNat 4 = zd h 10 u.toNat 4 := by rw [a4]
        rw [← this]
        exact if_neg fun z => by omega
theorem zad_46 {s : zS} {w b m v : Int} : zadS (zup s 46 0 v) w b m = zup (zadS s w b m) 46 0 v := by
  show zup (zup (zup (zup s 46 0 v) 48 (600 * w + s 47 w) b) 49 (600 * w + s 47 w) m) 47 w (s 47 w + 1) = zup (zup (zup (zup s 48 (600 * w + s 47 w) b) 49 (600 * w + s 47 w) m) 47 w (s 47 w + 1)) 46 0 v
  rw [zup_cm (j := 46) (j' := 48) (by decide), zup_cm (j := 46) (j' := 49) (by decide), zup_cm (j := 46) (j' := 47) (by decide)]
