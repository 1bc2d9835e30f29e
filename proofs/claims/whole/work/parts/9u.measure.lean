set_option maxRecDepth 16384
/-! measure: both sides. -/
theorem zc20' {h : zH} {s : zS} (hC : zCM1 h s) (hM : zWm s) {w i : Int} (w0 : 0 ≤ w) (w1 : w < 24) (i0 : 0 ≤ i) (i1 : i < s 47 w) : zm20 (some (zsk w, (w / 2).toNat)) (zE i) h = some (.inl (zE (s 48 (600 * w + i))), h) := by
  obtain ⟨cd, -, m2⟩ := hC
  obtain ⟨⟨k1, -⟩, k2, k3, k4, k5, k6, k7, k8, k9⟩ := m2 w w0 w1
  have hm := hM.1
  obtain ⟨h2, h3⟩ := hM.2 w w0 w1
  obtain ⟨g1, g2⟩ := h3 i i0 i1
  have hb := zbk_16 g2.2
  obtain ⟨d1, d2⟩ := zcod_s hb.1 hb.2 g1.1 g1.2
  have hk : (ztg (cd w).1 == 1 || ztg (cd w).1 == 10) = true := by rcases k1 with z | z <;> rw [z] <;> rfl
  have e1 : ∀ f : Int32 → zRs Int32, zri (zr h (zsk w) (w / 2).toNat 0) (zE i) h f = f (zE (2 * zbk (s 49 (600 * w + i)) + s 48 (600 * w + i))) := fun f => zri_s (k := (cd w).1) (i := (cd w).2) k2 hk rfl i0 (by omega) (by omega) (k4 i i0 i1)
  have z1 : ¬ zE 0 = zE 1 := by decide
  rw [zm20, zE_0, if_neg (by rw [zE_lt (by omega) (by omega) (by omega) (by omega)]; omega), zo_7g, k5, if_neg (by rw [zE_le (by omega) (by omega) (by omega) (by omega)]; omega), e1, zE_1, d2]
  rcases (show s 48 (600 * w + i) = 0 ∨ s 48 (600 * w + i) = 1 by omega) with q | q
  · rw [q, if_neg z1]
  · rw [q, if_pos rfl]
theorem zc33' {h : zH} {s : zS} (hK : zCK h s) (hC : zCM1 h s) (hM : zWm s) {k i : Int} {c : UInt64} (k0 : 0 ≤ k) (k1 : k < 12) (i0 : 0 ≤ i) (i1 : i < s 47 (2 * k)) (i2 : i < s 47 (2 * k + 1)) (hc : FP.Core.val64 c ≠ .nan) : zm33 (some (10, k.toNat)) c (zE i) h = some (.inl (zcst c (s 48 (600 * (2 * k + 1) + i)) (s 48 (600 * (2 * k) + i))), h) := by
  have a1 := zc20' hC hM (w := 2 * k + 1) (by omega) (by omega) i0 i2
  have a2 := zc20' hC hM (w := 2 * k) (by omega) (by omega) i0 i1
  rw [zsk_1, zdv_1] at a1
  rw [zsk_0, zdv_0] at a2
  obtain ⟨g1, -⟩ := (hM.2 (2 * k + 1) (by omega) (by omega)).2 i i0 i2
  obtain ⟨g2, -⟩ := (hM.2 (2 * k) (by omega) (by omega)).2 i i0 i1
  unfold zcst
  by_cases e : zbig c
  · have eb : ∀ f g : zRs UInt64, (if 0 ≤ (Op.cmpValue (FP.dcmp c 4626322717216342016) .l) then f else g) = f := fun f g => if_pos e
    rw [if_pos (show 0 ≤ (Op.cmpValue (FP.dcmp c 4626322717216342016) .l) from e)]
    simp (discharger := omega) only [zm33, zm33_15, ↓zo_10, zCk5 hK, ↓zo_7, a1, ↓zb_s, ↓eb]
  · have eb : ∀ f g : zRs UInt64, (if 0 ≤ (Op.cmpValue (FP.dcmp c 4626322717216342016) .l) then f else g) = g := fun f g => if_neg e
    rw [if_neg (show ¬ 0 ≤ (Op.cmpValue (FP.dcmp c 4626322717216342016) .l) from e)]
    have hn : ∀ c : UInt64, FP.Core.val64 c ≠ .nan → ∀ f : zRs UInt64, zif (c &&& 0x7fffffffffffffff ≤ 0x7ff0000000000000) f = f := fun c hc f => zif_s (zF_nan.mpr hc)
    by_cases c1 : s 48 (600 * (2 * k + 1) + i) = s 48 (600 * (2 * k) + i)
    · rw [if_pos c1]
      simp (discharger := omega) only [zm33, zm33_15, ↓zo_10, zCk5 hK, zCk6 hK, ↓zo_7, ↓zo_8, a1, a2, ↓zb_s, ↓eb, c1, if_true]
    · rw [if_neg c1]
      by_cases c2 : s 48 (600 * (2 * k + 1) + i) = 0
      · rw [if_pos c2]
        rw [c2] at c1 a1
        simp (discharger := omega) only [zm33, zm33_15, ↓zo_10, zCk5 hK, zCk6 hK, ↓zo_7, ↓zo_8, a1, a2, ↓zb_s, ↓eb, zE_inj, c1, if_false, zE_0, zE_1, zE_2, zE_3, zE_4, zE_5, zE_6, zE_7, zE_8, zE_9, zE_10, zE_11, zE_12, zE_13, zE_14, zE_neg, if_true, hn _ (zF_mul hc zF_c5 (by decide))]
      · rw [if_neg c2]
        simp (discharger := omega) only [zm33, zm33_15, ↓zo_10, zCk5 hK, zCk6 hK, ↓zo_7, ↓zo_8, a1, a2, ↓zb_s, ↓eb, zE_inj, c1, c2, if_false, zE_0, zE_1, zE_2, zE_3, zE_4, zE_5, zE_6, zE_7, zE_8, zE_9, zE_10, zE_11, zE_12, zE_13, zE_14, zE_neg, hn _ (zF_mul hc zF_c15 (by decide))]
theorem zcpN_cg {s s' : zS} {k : Int} : ∀ n : Nat, (∀ x : Int, 0 ≤ x → x < n → s' 48 (600 * (2 * k + 1) + x) = s 48 (600 * (2 * k + 1) + x) ∧ s' 48 (600 * (2 * k) + x) = s 48 (600 * (2 * k) + x)) → zcpN s' k n = zcpN s k n
  | 0, _ => rfl
  | n + 1, h => by
    show zcst (zcpN s' k n) (s' 48 (600 * (2 * k + 1) + (n : Int))) (s' 48 (600 * (2 * k) + (n : Int))) = zcst (zcpN s k n) (s 48 (600 * (2 * k + 1) + (n : Int))) (s 48 (600 * (2 * k) + (n : Int)))
    obtain ⟨a, b⟩ := h n (by omega) (by omega)
    rw [zcpN_cg n (fun x a b => h x a (by omega)), a, b]
theorem zCl_ad {h h' : zH} {s : zS} {w b m : Int} (hC : zCl h s) (K : zKp (fun k => k ≠ 7 ∧ k ≠ 8 ∧ k ≠ 30 ∧ k ≠ 31 ∧ k ≠ 32 ∧ k ≠ 10) h h') (K1 : zr h' 10 = zr h 10) (K2 : zi h' 10 = zi h 10) (hM : zCM h' (zadS s w b m)) : zCl h' (zadS s w b m) := by
  have e : ∀ k, (k ≠ 7 ∧ k ≠ 8 ∧ k ≠ 30 ∧ k ≠ 31 ∧ k ≠ 32 ∧ k ≠ 10) → zct h' k = zct h k ∧ zln h' k = zln h k ∧ zi h' k = zi h k ∧ zr h' k = zr h k ∧ zd h' k = zd h k ∧ zl h' k = zl h k := fun k a => K k a
  obtain ⟨c1, c2, c3, c4, c5, c6, c7, c8, c9, c10, c11, c12, c13, c14⟩ := hC
  have d1 : zCr h' := by
    unfold zCr at c1 ⊢
    rw [(e 12 (by decide)).2.2.2.1]
    exact c1
  have d2 : zCs h' s := by
    unfold zCs at c2 ⊢
    rw [(e 12 (by decide)).2.2.1]
    exact c2
  have d3 : zCA h' s := by
    unfold zCA at c3 ⊢
    obtain ⟨-, -, a1, a2, -⟩ := e 0 (by decide)
    obtain ⟨-, b0, b1, b2, -⟩ := e 14 (by decide)
    obtain ⟨-, d0, d1, d2, -⟩ := e 21 (by decide)
    rw [a1, a2, b0, b1, b2, d0, d1]
    exact c3
  have d4 : zCP h' s := by
    unfold zCP at c4 ⊢
    obtain ⟨-, -, a1, a2, -⟩ := e 4 (by decide)
    obtain ⟨-, b0, b1, b2, -⟩ := e 15 (by decide)
    obtain ⟨-, d0, d1, d2, -⟩ := e 22 (by decide)
    obtain ⟨-, f0, f1, f2, -⟩ := e 23 (by decide)
    obtain ⟨-, g0, g1, g2, -⟩ := e 24 (by decide)
    rw [a1, a2, b0, b1, b2, d0, d1, f0, f1, g0, g1]
    exact c4
  have d5 : zCR h' s := by
    unfold zCR at c5 ⊢
    obtain ⟨-, -, a1, a2, -⟩ := e 5 (by decide)
    obtain ⟨-, b0, b1, b2, -⟩ := e 16 (by decide)
    obtain ⟨-, d0, d1, d2, -⟩ := e 25 (by decide)
    obtain ⟨-, f0, f1, f2, -⟩ := e 26 (by decide)
    rw [a1, a2, b0, b1, b2, d0, d1, f0, f2]
    exact c5
  have d6 : zCZ h' s := by
    unfold zCZ at c6 ⊢
    obtain ⟨-, -, a1, a2, -⟩ := e 3 (by decide)
    obtain ⟨-, b0, b1, b2, -⟩ := e 17 (by decide)
    rw [a1, b0, b1, b2]
    exact c6
  have d7 : zCT h' s := by
    unfold zCT at c7 ⊢
    obtain ⟨-, -, a1, a2, -⟩ := e 11 (by decide)
    obtain ⟨-, b0, b1, b2, -⟩ := e 18 (by decide)
    rw [a1, b0, b1, b2]
    exact c7
  have d8 : zCE h' s := by
    unfold zCE at c8 ⊢
    obtain ⟨-, -, a1, a2, -⟩ := e 1 (by decide)
    obtain ⟨-, b0, b1, b2, -⟩ := e 19 (by decide)
    rw [a1, b0, b1, b2]
    exact c8
  have d9 : zCV h' s := by
    unfold zCV at c9 ⊢
    obtain ⟨-, -, a1, a2, -⟩ := e 9 (by decide)
    obtain ⟨-, b0, b1, b2, -⟩ := e 33 (by decide)
    obtain ⟨-, d0, d1, d2, -⟩ := e 27 (by decide)
    obtain ⟨-, f0, f1, f2, -⟩ := e 28 (by decide)
    obtain ⟨-, g0, g1, g2, -⟩ := e 29 (by decide)
    rw [a1, a2, b0, b2, d0, d2, f0, f1, g0, g2]
    exact c9
  have d10 : zCK h' s := by
    unfold zCK at c10 ⊢
    rw [K1, K2]
    exact c10
  have d11 : zCG h' s := by
    unfold zCG at c11 ⊢
    obtain ⟨-, -, a1, a2, -⟩ := e 2 (by decide)
    obtain ⟨-, b0, b1, b2, -⟩ := e 34 (by decide)
    obtain ⟨-, d0, d1, d2, -⟩ := e 20 (by decide)
    obtain ⟨-, f0, f1, f2, -⟩ := e 6 (by decide)
    rw [a1, a2, b0, b2, d0, d1, d2, f1]
    exact c11
  have d12 : zCX h' s := by
    unfold zCX at c12 ⊢
    obtain ⟨-, a0, a1, a2, -⟩ := e 35 (by decide)
    obtain ⟨-, b0, b1, b2, -⟩ := e 36 (by decide)
    obtain ⟨-, d0, d1, d2, -⟩ := e 37 (by decide)
    rw [a0, a1, b0, b1, d0, d1]
    exact c12
  have d14 : zCN h' s := by
    unfold zCN at c14 ⊢
    rw [(e 0 (by decide)).1, (e 21 (by decide)).1, (e 4 (by decide)).1, (e 22 (by decide)).1, (e 23 (by decide)).1, (e 24 (by decide)).1, (e 5 (by decide)).1, (e 25 (by decide)).1, (e 26 (by decide)).1, (e 3 (by decide)).1, (e 11 (by decide)).1, (e 1 (by decide)).1, (e 6 (by decide)).1, (e 20 (by decide)).2.2.2.1]
    exact c14
  exact ⟨d1, d2, d3, d4, d5, d6, d7, d8, d9, d10, d11, d12, hM, d14⟩
theorem zc31 {h : zH} {s : zS} (hK : zCK h s) {k c : Int} (k0 : 0 ≤ k) (k1 : k < 12) (hc : c = 0 ∨ c = 1) : zm31 (some (10, k.toNat)) (zE c) h = some (.inl (some (zsk (2 * k + c), ((2 * k + c) / 2).toNat)), h) := by
  have z1 : ¬ zE 1 = zE 0 := by decide
  rcases hc with rfl | rfl
  · rw [zm31, zE_0, if_pos rfl, zo_10, zCk6 hK k0 k1, Int.add_zero, zsk_0, zdv_0]
  · rw [zm31, zE_0, if_neg z1, zo_10, zCk5 hK k0 k1, zsk_1, zdv_1]
theorem zc32 {h : zH} {s : zS} {k c b m : Int} (hC : zCl h s) (hM : zWm (zadS s (2 * k + c) b m)) (hu : ∀ u, 0 ≤ u → u < 24 → 0 ≤ s 47 u ∧ s 47 u ≤ 600) (k0 : 0 ≤ k) (k1 : k < 12) (hc : c = 0 ∨ c = 1) (hn : s 47 (2 * k + c) < 600) (hb : b = 0 ∨ b = 1) (m0 : 0 ≤ m) (m1 : m ≤ 60000) : ∃ h', zm32 (some (10, k.toNat)) (zE c) (zE b) (zE m) h = some (.inl (zE (s 47 (2 * k + c) + 1)), h') ∧ zCl h' (zadS s (2 * k + c) b m) ∧ zKp (fun k => ¬ zpc1 k) h h' ∧ zce h' ≤ zce h + 1 ∧ zso h' ≤ zso h + 2000 := by
  have z1 : ¬ zE 1 = zE 0 := by decide
  have cK : zCK h s := hC.2.2.2.2.2.2.2.2.2.1
  obtain ⟨⟨cd, cM1, cM2⟩, cM3⟩ := hC.2.2.2.2.2.2.2.2.2.2.2.2.1
  have w0 : 0 ≤ 2 * k + c := by omega
  have w1 : 2 * k + c < 24 := by omega
  have v0 : 0 ≤ 2 * k + (1 - c) := by omega
  have v1 : 2 * k + (1 - c) < 24 := by omega
  have nwv : 2 * k + (1 - c) ≠ 2 * k + c := by omega
  obtain ⟨H, a1, a2, a3, a4, a5, a6⟩ := zc19 (b := b) (m := m) ⟨cd, cM1, cM2⟩ w0 w1 hu hn hb m0 m1
  obtain ⟨-, -, x2, x3, -, -⟩ := a3 10 (by decide)
  have cK' : zCK H (zadS s (2 * k + c) b m) := by
    unfold zCK at cK
    unfold zCK
    rw [x2, x3]
    exact cK
  have e47 : ∀ u, zadS s (2 * k + c) b m 47 u = if u = 2 * k + c then s 47 (2 * k + c) + 1 else s 47 u := fun u => zad_47
  have hw := e47 (2 * k + c)
  rw [if_pos rfl] at hw
  have hv := e47 (2 * k + (1 - c))
  rw [if_neg nwv] at hv
  have hN := (hu _ w0 w1).1
  have hV := hu _ v0 v1
  have cnt : ∀ u, 0 ≤ u → u < 24 → zi H (zsk u) (u / 2).toNat 1 = zE (zadS s (2 * k + c) b m 47 u) := fun u u0 u1 => by
    obtain ⟨cd', -, y⟩ := a2
    exact (y u u0 u1).2.2.2.2.1
  have gw := cnt _ w0 w1
  rw [hw] at gw
  have gv := cnt _ v0 v1
  rw [hv] at gv
  have c31 := zc31 cK k0 k1 hc
  have c31' := zc31 cK' (c := 1 - c) k0 k1 (by omega)
  have hx := fun u x => zad_x (s := s) (w := 2 * k + c) (b := b) (m := m) (u := u) (x := x) ⟨hN, hn⟩
  -- what the capital is elsewhere
  have oth : ∀ u : Int, 0 ≤ u → u < 12 → u ≠ k → zcpN (zadS s (2 * k + c) b m) u (zprs (zadS s (2 * k + c) b m) u).toNat = zcpN s u (zprs s u).toNat := fun u u0 u1 ne => by
    have p1 := e47 (2 * u)
    rw [if_neg (by omega)] at p1
    have p2 := e47 (2 * u + 1)
    rw [if_neg (by omega)] at p2
    have ep : zprs (zadS s (2 * k + c) b m) u = zprs s u := by
      unfold zprs
      rw [p1, p2]
    rw [ep]
    refine zcpN_cg _ fun x x0 x1 => ?_
    have hp : zprs s u ≤ 600 := by
      unfold zprs
      have q1 := hu (2 * u) (by omega) (by omega)
      have q2 := hu (2 * u + 1) (by omega) (by omega)
      split <;> omega
    have hp0 : 0 ≤ zprs s u := by
      unfold zprs
      have q1 := hu (2 * u) (by omega) (by omega)
      have q2 := hu (2 * u + 1) (by omega) (by omega)
      split <;> omega
    exact ⟨(hx (2 * u + 1) x x0 (by omega) (Or.inl (by omega))).1, (hx (2 * u) x x0 (by omega) (Or.inl (by omega))).1⟩
  have mn : zprs s k = if s 47 (2 * k + (1 - c)) ≤ s 47 (2 * k + c) then s 47 (2 * k + (1 - c)) else s 47 (2 * k + c) := by
    unfold zprs
    rcases hc with rfl | rfl
    · rw [show 2 * k + (1 - 0) = 2 * k + 1 by omega, Int.add_zero]
      split <;> split <;> omega
    · rw [show 2 * k + (1 - 1) = 2 * k by omega]
      split <;> split <;> omega
  have mn' : zprs (zadS s (2 * k + c) b m) k = if s 47 (2 * k + (1 - c)) ≤ s 47 (2 * k + c) then s 47 (2 * k + (1 - c)) else s 47 (2 * k + c) + 1 := by
    rcases hc with rfl | rfl
    · have q0 := e47 (2 * k)
      rw [if_pos (by omega)] at q0
      have q1 := e47 (2 * k + 1)
      rw [if_neg (by omega)] at q1
      unfold zprs
      rw [q0, q1, show 2 * k + (1 - 0) = 2 * k + 1 by omega, Int.add_zero]
      split <;> split <;> omega
    · have q0 := e47 (2 * k)
      rw [if_neg (by omega)] at q0
      have q1 := e47 (2 * k + 1)
      rw [if_pos rfl] at q1
      unfold zprs
      rw [q0, q1, show 2 * k + (1 - 1) = 2 * k by omega]
      split <;> split <;> omega
  have sm : ∀ n : Nat, n ≤ s 47 (2 * k + c) → zcpN (zadS s (2 * k + c) b m) k n = zcpN s k n := fun n hn' => zcpN_cg _ fun x x0 x1 => ⟨(hx (2 * k + 1) x x0 (by omega) (by omega)).1, (hx (2 * k) x x0 (by omega) (by omega)).1⟩
  have go : zm32 (some (10, k.toNat)) (zE c) (zE b) (zE m) h = if zE (s 47 (2 * k + (1 - c))) < zE (s 47 (2 * k + c) + 1) then some (.inl (zE (s 47 (2 * k + c) + 1)), H) else zb (zm33 (some (10, k.toNat)) (zd H 10 k.toNat 4) (zE (s 47 (2 * k + c))) H) fun x41 h40 => zlet (zsd h40 10 k.toNat 4 x41) fun h42 => zm32_29 (some (zsk (2 * k + c), ((2 * k + c) / 2).toNat)) h42 := by
    have p16 : zm32_16 (some (10, k.toNat)) (some (zsk (2 * k + c), ((2 * k + c) / 2).toNat)) (zE (s 47 (2 * k + c) + 1)) (some (10, k.toNat)) (zE (1 - c)) H = if zE (s 47 (2 * k + (1 - c))) < zE (s 47 (2 * k + c) + 1) then some (.inl (zE (s 47 (2 * k + c) + 1)), H) else zb (zm33 (some (10, k.toNat)) (zd H 10 k.toNat 4) (zE (s 47 (2 * k + c))) H) fun x41 h40 => zlet (zsd h40 10 k.toNat 4 x41) fun h42 => zm32_29 (some (zsk (2 * k + c), ((2 * k + c) / 2).toNat)) h42 := by
      rw [zm32_16, zo_10, c31', zb_s, zo_7g, gv, zm32_29, zo_7g, gw, zo_10, zo_7g, gw, zE_1, zE_sub, show s 47 (2 * k + c) + 1 - 1 = s 47 (2 * k + c) by omega]
    rw [zm32, zo_10, c31, zb_s, zo_7g, a1, zb_s, gw]
    rcases hc with rfl | rfl
    · rw [if_pos zE_0.symm, zE_1, ← p16]
      rfl
    · rw [if_neg (by rw [zE_0]; exact z1), zE_0, ← p16]
      rfl
  have fr : zKp (fun k => ¬ zpc1 k) h H := a3.mn fun k hk => by
    have : ¬ zpc1 k := hk
    unfold zpc1 at this
    show k ≠ 7 ∧ k ≠ 8 ∧ k ≠ 30 ∧ k ≠ 31 ∧ k ≠ 32
    omega
  have fr2 : zKp (fun k => k ≠ 7 ∧ k ≠ 8 ∧ k ≠ 30 ∧ k ≠ 31 ∧ k ≠ 32 ∧ k ≠ 10) h H := a3.mn fun k hk => ⟨hk.1, hk.2.1, hk.2.2.1, hk.2.2.2.1, hk.2.2.2.2.1⟩
  rw [go]
  by_cases c1 : s 47 (2 * k + (1 - c)) ≤ s 47 (2 * k + c)
  · rw [if_pos c1] at mn mn'
    refine ⟨H, ?_, zCl_ad hC fr2 x3 x2 ⟨a2, fun u u0 u1 => ?_⟩, fr, by omega, by omega⟩
    · rw [if_pos (by rw [zE_lt (by omega) (by omega) (by omega) (by omega)]; omega)]
    · have ed : zd H 10 u.toNat 4 = zd h 10 u.toNat 4 := by rw [a4]
      rw [ed, cM3 u u0 u1]
      by_cases c2 : u = k
      · rw [c2, mn, mn', sm _ (by omega)]
      · exact (oth u u0 u1 c2).symm
  · rw [if_neg c1] at mn mn'
    have ed : zd H 10 k.toNat 4 = zcpN s k (s 47 (2 * k + c)).toNat := by
      rw [a4, cM3 k k0 k1, mn]
    have nn : FP.Core.val64 (zcpN s k (s 47 (2 * k + c)).toNat) ≠ .nan := zcpN_n s k _
    have i1 : s 47 (2 * k + c) < zadS s (2 * k + c) b m 47 (2 * k) := by
      rw [e47]
      split
      · omega
      · have e : s 47 (2 * k) = s 47 (2 * k + (1 - c)) := congrArg (s 47) (by omega)
        rw [e]; omega
    have i2 : s 47 (2 * k + c) < zadS s (2 * k + c) b m 47 (2 * k + 1) := by
      rw [e47]
      split
      · omega
      · have e : s 47 (2 * k + 1) = s 47 (2 * k + (1 - c)) := congrArg (s 47) (by omega)
        rw [e]; omega
    have e33 := zc33' cK' a2 hM k0 k1 hN i1 i2 nn
    obtain ⟨v, hv'⟩ : ∃ v, v = zcst (zcpN s k (s 47 (2 * k + c)).toNat) (zadS s (2 * k + c) b m 48 (600 * (2 * k + 1) + s 47 (2 * k + c))) (zadS s (2 * k + c) b m 48 (600 * (2 * k) + s 47 (2 * k + c))) := ⟨_, rfl⟩
    rw [← hv'] at e33
    rw [ed, e33, zb_s, zlet_s, if_neg (by rw [zE_lt (by omega) (by omega) (by omega) (by omega)]; omega), zm32_29, zo_7g]
    refine ⟨zsd H 10 k.toNat 4 v, ?_, zCl_ad hC (fr2.tr (zKp_d (fun z => z.2.2.2.2.2 rfl))) x3 x2 ⟨?_, fun u u0 u1 => ?_⟩, fr.tr (zKp_d (fun z => z (by unfold zpc1; decide))), a5, a6⟩
    · have : zi (zsd H 10 k.toNat 4 v) (zsk (2 * k + c)) ((2 * k + c) / 2).toNat 1 = zE (s 47 (2 * k + c) + 1) := gw
      rw [this]
    · exact a2
    · by_cases c2 : u = k
      · rw [c2, mn', show (s 47 (2 * k + c) + 1).toNat = (s 47 (2 * k + c)).toNat + 1 by omega]
        show zd (zsd H 10 k.toNat 4 v) 10 k.toNat 4 = zcst (zcpN (zadS s (2 * k + c) b m) k (s 47 (2 * k + c)).toNat) (zadS s (2 * k + c) b m 48 (600 * (2 * k + 1) + ((s 47 (2 * k + c)).toNat : Int))) (zadS s (2 * k + c) b m 48 (600 * (2 * k) + ((s 47 (2 * k + c)).toNat : Int)))
        rw [sm _ (by omega), Int.toNat_of_nonneg hN, ← hv']
        exact zd_sd
      · rw [oth u u0 u1 c2, ← cM3 u u0 u1]
        have : zd H 10 u.toNat 4 = zd h 10 u.toNat 4 := by rw [a4]
        rw [← this]
        exact if_neg fun z => by omega
theorem zad_46 {s : zS} {w b m v : Int} : zadS (zup s 46 0 v) w b m = zup (zadS s w b m) 46 0 v := by
  show zup (zup (zup (zup s 46 0 v) 48 (600 * w + s 47 w) b) 49 (600 * w + s 47 w) m) 47 w (s 47 w + 1) = zup (zup (zup (zup s 48 (600 * w + s 47 w) b) 49 (600 * w + s 47 w) m) 47 w (s 47 w + 1)) 46 0 v
  rw [zup_cm (j := 46) (j' := 48) (by decide), zup_cm (j := 46) (j' := 49) (by decide), zup_cm (j := 46) (j' := 47) (by decide)]
theorem zr_measure (x y u : Int32) (c : Int) (hc : c = 0 ∨ c = 1) (b : Int) (hb : b = 0 ∨ b = 1) : zPrI (fun h => zm101 (some (12, 0)) x y (zE c) (zE b) u h) (fun h => zm209 (some (13, 0)) x y (zE c) (zE b) u h) (fun t => if t = 1 then 0 else 1) 2 := by
  intro h s hC hM hW
  obtain ⟨x, rfl, x1, x2⟩ := zE_ex x
  obtain ⟨y, rfl, y1, y2⟩ := zE_ex y
  obtain ⟨m, rfl, m1, m2⟩ := zE_ex u
  have z1 : ¬ zE 1 = zE 0 := by decide
  have cr : zCr h := hC.1
  have cs : zCs h s := hC.2.1
  have cV : zCV h s := hC.2.2.2.2.2.2.2.2.1
  have cK : zCK h s := hC.2.2.2.2.2.2.2.2.2.1
  have wM := hW.2.2.2.2.2.2.2.2.2.2.1
  have hn := hW.1.1
  obtain ⟨d1, d2⟩ := zc132 (h := h) cr cV x1 x2 y1 y2
  have c131 := zc131 (h := h) (x := m) (lo := 0) (hi := 60000) m1 m2 (by omega) (by omega) (by omega) (by omega)
  have P : ∀ h' : zH, zMd h' s → ∃ v, zbo v (((0 ≤ x ∧ x ≤ 3) ∧ 0 ≤ y ∧ y ≤ 2) ∧ 0 ≤ m ∧ m ≤ 60000) ∧ zm209 (some (13, 0)) (zE x) (zE y) (zE c) (zE b) (zE m) h' = zm209_15 (some (13, 0)) (zE x) (zE y) (zE c) (zE b) (zE m) (some (13, 0)) (zE (1 - v)) h' := fun h' hM' => by
    obtain ⟨p, p1, p2⟩ := zp140 (h := h') (x := x) x1 x2
    obtain ⟨q, q1, q2⟩ := zp141 (h := h') (x := y) y1 y2
    obtain ⟨r, r1, r2⟩ := zp139i (h := h') (x := m) (lo := 0) (hi := 60000) m1 m2 (by omega) (by omega) (by omega) (by omega)
    rw [zm209, p2, zb_s]
    rcases p1 with ⟨rfl, p1⟩ | ⟨rfl, p1⟩
    · rw [if_neg (by rw [zE_0]; exact z1), q2, zb_s]
      rcases q1 with ⟨rfl, q1⟩ | ⟨rfl, q1⟩
      · rw [if_neg (by rw [zE_0]; exact z1), zE_0, zE_60000, r2, zb_s]
        rcases r1 with ⟨rfl, r1⟩ | ⟨rfl, r1⟩
        · exact ⟨1, zbo_1 ⟨⟨p1, q1⟩, r1⟩, by rw [if_neg z1, show (1 : Int) - 1 = 0 from rfl]⟩
        · exact ⟨0, zbo_0 (fun z => r1 z.2), by rw [if_pos rfl, zE_1, show (1 : Int) - 0 = 1 from rfl]⟩
      · exact ⟨0, zbo_0 (fun z => q1 z.1.2), by rw [if_pos zE_0.symm, zE_1, show (1 : Int) - 0 = 1 from rfl]⟩
    · exact ⟨0, zbo_0 (fun z => p1 z.1.1), by rw [if_pos zE_0.symm, zE_1, show (1 : Int) - 0 = 1 from rfl]⟩
  -- refused at the model's first test
  have bad1 : ∀ h' : zH, zMd h' s → ¬ (((0 ≤ x ∧ x ≤ 3) ∧ 0 ≤ y ∧ y ≤ 2) ∧ 0 ≤ m ∧ m ≤ 60000) → zm209 (some (13, 0)) (zE x) (zE y) (zE c) (zE b) (zE m) h' = some (.inl (zE 0), zsi h' 13 0 0 (zE 1)) := fun h' hM' q => by
    obtain ⟨v, v1, v2⟩ := P h' hM'
    rw [v1.u (zbo_0 q)] at v2
    have k0 : zi (zsi h' 13 0 0 (zE 1)) 13 0 0 = zE 1 := zi_s
    rw [v2, show (1 : Int) - 0 = 1 by omega, zm209_15, zM_ob, zlet_s, zM_ob, k0, zE_0, if_neg (by decide)]
  by_cases q : (0 ≤ x ∧ x ≤ 3) ∧ 0 ≤ y ∧ y ≤ 2
  · by_cases qm : 0 ≤ m ∧ m ≤ 60000
    · obtain ⟨k, hk⟩ : ∃ k, k = 3 * x + y := ⟨_, rfl⟩
      have k0 : 0 ≤ k := by omega
      have k1 : k < 12 := by omega
      have wk := hW.2.1 k k0 k1
      have d1 := d1 q
      rw [← hk] at d1
      have M15 : ∀ h' : zH, zMd h' s → zm209 (some (13, 0)) (zE x) (zE y) (zE c) (zE b) (zE m) h' = if zE (s 13 k) = zE (-1) then zm209_47 (some (13, 0)) (zE c) (zE b) (zE m) (zE k) (some (13, 0)) (zE 2) (zsi h' 13 0 0 (zE 0)) else if zE (s 12 k) = zE (-1) then zm209_47 (some (13, 0)) (zE c) (zE b) (zE m) (zE k) (some (13, 0)) (zE 2) (zsi h' 13 0 0 (zE 0)) else if zE (s 46 0) = zE 600 then zm209_47 (some (13, 0)) (zE c) (zE b) (zE m) (zE k) (some (13, 0)) (zE 2) (zsi h' 13 0 0 (zE 0)) else zm209_47 (some (13, 0)) (zE c) (zE b) (zE m) (zE k) (some (13, 0)) (zE 0) (zsi h' 13 0 0 (zE 0)) := fun h' hM' => by
        obtain ⟨v, v1, v2⟩ := P h' hM'
        rw [v1.u (zbo_1 ⟨q, qm⟩)] at v2
        have M0 := hM'.ws 0 (by decide) 0
        have g0 : zi (zsi h' 13 0 0 (zE 0)) 13 0 0 = zE 0 := zi_s
        rw [v2, show (1 : Int) - 1 = 0 by omega, zm209_15, zM_ob, zlet_s, zM_ob, g0, zE_0, if_pos (Int32.le_refl _), zE_3, zE_mul, zE_add, ← hk, zlet_s, zMi13 M0 k0 k1, zMi12 M0 k0 k1, zMs46 M0, zE_m1, zE_600, zE_2]
        rfl
      have z47 : ∀ h' : zH, zm209_47 (some (13, 0)) (zE c) (zE b) (zE m) (zE k) (some (13, 0)) (zE 2) (zsi h' 13 0 0 (zE 0)) = some (.inl (zE 0), zsi (zsi h' 13 0 0 (zE 0)) 13 0 0 (zE 2)) := fun h' => by
        have g0 : zi (zsi (zsi h' 13 0 0 (zE 0)) 13 0 0 (zE 2)) 13 0 0 = zE 2 := zi_s
        rw [zm209_47, zM_ob, zlet_s, zM_ob, g0, zE_0, if_neg (by decide)]
      have w1 := wk.1
      have w2 := wk.2.1
      have m0 := wM.1
      have C0 : zm101 (some (12, 0)) (zE x) (zE y) (zE c) (zE b) (zE m) h = if zrf 0 (s 13 k) = none then some (.inr 1, zro h 1 6) else if zrf 0 (s 12 k) = none then some (.inr 1, zro h 1 6) else if zE (s 46 0) < zE 600 then zb (zm32 (some (10, k.toNat)) (zE c) (zE b) (zE m) (zsi h 12 0 16 (zE (s 46 0 + 1)))) fun x38 h37 => some (.inl x38, h37) else some (.inr 1, zro h 1 6) := by
        rw [zm101, zo_12, d1, zb_s, zE_0, zE_60000, c131, if_pos qm, zb_s, zo_10, zCk1 cK k0 k1, zCk0 cK k0 k1, zCs16 cs, zE_600, zE_1, zE_add, zlet_s]
      have fail : (s 13 k = -1 ∨ s 12 k = -1 ∨ s 46 0 = 600) → ∃ (t v w : Int) (s' : zS), 0 ≤ t ∧ t ≤ 2 ∧ zWf s' ∧ ((t = 0 ∧ zCct h s' (zm101 (some (12, 0)) (zE x) (zE y) (zE c) (zE b) (zE m) h) (.inl (zE v))) ∨ (t ≠ 0 ∧ zCct h s' (zm101 (some (12, 0)) (zE x) (zE y) (zE c) (zE b) (zE m) h) (.inr (if t = 1 then 0 else 1)))) ∧ (t = 0 → w = v) ∧ ∀ h', zMd h' s → ∃ s'', zsc s' s'' ∧ s'' 0 0 = t ∧ zMct h' s'' (zm209 (some (13, 0)) (zE x) (zE y) (zE c) (zE b) (zE m) h') (zE w) := fun hf => by
        refine zexI2 (t := 2) (C := fun h => zm101 (some (12, 0)) (zE x) (zE y) (zE c) (zE b) (zE m) h) (M := fun h => zm209 (some (13, 0)) (zE x) (zE y) (zE c) (zE b) (zE m) h) (ex := fun t => if t = 1 then 0 else 1) hC hW (by omega) (by omega) ?_ (fun h' hM' => ⟨0, ?_⟩)
        · show zm101 (some (12, 0)) (zE x) (zE y) (zE c) (zE b) (zE m) h = some (.inr 1, zro h 1 6)
          rw [C0]
          by_cases f1 : s 13 k = -1
          · rw [f1, if_pos zrf_n]
          · rw [if_neg (by rw [zrf_z w2.1]; exact f1)]
            by_cases f2 : s 12 k = -1
            · rw [f2, if_pos zrf_n]
            · rw [if_neg (by rw [zrf_z w1.1]; exact f2), if_neg (by rw [zE_lt (by omega) (by omega) (by omega) (by omega)]; omega)]
        · show zm209 (some (13, 0)) (zE x) (zE y) (zE c) (zE b) (zE m) h' = _
          rw [M15 h' hM', z47]
          by_cases f1 : s 13 k = -1
          · rw [f1, if_pos rfl]
          · rw [if_neg (by rw [zE_inj (by omega) (by omega) (by omega) (by omega)]; exact f1)]
            by_cases f2 : s 12 k = -1
            · rw [f2, if_pos rfl]
            · rw [if_neg (by rw [zE_inj (by omega) (by omega) (by omega) (by omega)]; exact f2), if_pos (by rw [show s 46 0 = 600 by omega])]
      by_cases f1 : s 13 k = -1
      · exact fail (Or.inl f1)
      · by_cases f2 : s 12 k = -1
        · exact fail (Or.inr (Or.inl f2))
        · by_cases f3 : s 46 0 = 600
          · exact fail (Or.inr (Or.inr f3))
          · have n46 : s 46 0 < 600 := by omega
            obtain ⟨w, hw⟩ : ∃ w, w = 2 * k + c := ⟨_, rfl⟩
            have w0 : 0 ≤ w := by omega
            have w1' : w < 24 := by omega
            have wu := (wM.2 w w0 w1').1
            have Wm : zWm (zadS (zup s 46 0 (s 46 0 + 1)) w b m) := zad_W wM n46 w0 w1' hb qm.1 qm.2
            obtain ⟨h1, e1, e2, e3, e4, e5⟩ := zc32 (k := k) (c := c) (b := b) (m := m) (zw_12_16 (x := s 46 0 + 1) hC) (by rw [← hw]; exact Wm) (fun u u0 u1 => by
              have := (wM.2 u u0 u1).1
              show 0 ≤ s 47 u ∧ s 47 u ≤ 600
              omega) k0 k1 hc (by
              rw [← hw]
              show s 47 w < 600
              omega) hb qm.1 qm.2
            rw [← hw] at e1 e2
            have e1 : zm32 (some (10, k.toNat)) (zE c) (zE b) (zE m) (zsi h 12 0 16 (zE (s 46 0 + 1))) = some (.inl (zE (s 47 w + 1)), h1) := e1
            have W' : zWf (zadS (zup s 46 0 (s 46 0 + 1)) w b m) := by
              obtain ⟨wA, wK, wC, wD, wP, wR, wZ, wT, wG, wE, wMM, wX⟩ := hW
              exact ⟨wA, wK, wC, wD, wP, wR, wZ, wT, wG, wE, Wm, wX⟩
            refine zokI (C := fun h => zm101 (some (12, 0)) (zE x) (zE y) (zE c) (zE b) (zE m) h) (M := fun h => zm209 (some (13, 0)) (zE x) (zE y) (zE c) (zE b) (zE m) h) (v := s 47 w + 1) (by omega) W' (h1 := h1) ?_ e2 ((zKp_i (fun z => z (by unfold zpc1; decide))).tr e3) (Nat.le_trans e4 (by show zce h + 1 ≤ _; omega)) (Nat.le_trans e5 (by show zso h + 2000 ≤ _; omega)) (fun h' hM' => ?_)
            · show zm101 (some (12, 0)) (zE x) (zE y) (zE c) (zE b) (zE m) h = _
              rw [C0, if_neg (by rw [zrf_z w2.1]; exact f1), if_neg (by rw [zrf_z w1.1]; exact f2), if_pos (by rw [zE_lt (by omega) (by omega) (by omega) (by omega)]; exact n46), e1, zb_s]
            · have M0 : zMd (zsi (zsi h' 13 0 0 (zE 0)) 13 0 0 (zE 0)) (zup (zup s 0 0 0) 0 0 0) := (hM'.ws 0 (by decide) 0).ws 0 (by decide) 0
              have N0 : zMd (zsi (zsi h' 13 0 0 (zE 0)) 13 0 0 (zE 0)) (zup s 0 0 0) := by
                have : zup (zup s 0 0 0) 0 0 0 = zup s 0 0 0 := zup_id zup_s
                rwa [this] at M0
              have g0 : zi (zsi (zsi h' 13 0 0 (zE 0)) 13 0 0 (zE 0)) 13 0 0 = zE 0 := zi_s
              generalize hH : zsi (zsi h' 13 0 0 (zE 0)) 13 0 0 (zE 0) = H at *
              have N1 : zMd (zsi H 248 0 (600 * w + s 47 w).toNat (zE b)) (zup (zup s 0 0 0) 48 (600 * w + s 47 w) b) := N0.wa (48, 248, 14400) (by decide) _ b (by omega)
              have N2 : zMd (zsi (zsi H 248 0 (600 * w + s 47 w).toNat (zE b)) 149 0 (600 * w + s 47 w).toNat (zE m)) (zup (zup (zup s 0 0 0) 48 (600 * w + s 47 w) b) 49 (600 * w + s 47 w) m) := N1.wa (49, 149, 14400) (by decide) _ m (by omega)
              have N3 : zMd (zsi (zsi (zsi H 248 0 (600 * w + s 47 w).toNat (zE b)) 149 0 (600 * w + s 47 w).toNat (zE m)) 147 0 w.toNat (zE (s 47 w + 1))) (zadS (zup s 0 0 0) w b m) := N2.wa (47, 147, 24) (by decide) w (s 47 w + 1) w0
              have N4 := N3.ws 46 (by decide) (s 46 0 + 1)
              rw [← zad_46] at N4
              have F : zfrM h' (zsi (zsi (zsi (zsi H 248 0 (600 * w + s 47 w).toNat (zE b)) 149 0 (600 * w + s 47 w).toNat (zE m)) 147 0 w.toNat (zE (s 47 w + 1))) 13 0 46 (zE (s 46 0 + 1))) := by
                rw [← hH]
                exact (((((zfrM_i (Or.inl rfl)).tr (zfrM_i (Or.inl rfl))).tr (zfrM_i (Or.inr (by decide)))).tr (zfrM_i (Or.inr (by decide)))).tr (zfrM_i (Or.inr (by decide)))).tr (zfrM_i (Or.inl rfl))
              have sc : zsc (zadS (zup s 46 0 (s 46 0 + 1)) w b m) (zadS (zup (zup s 0 0 0) 46 0 (s 46 0 + 1)) w b m) := fun j a1 a2 a3 a4 => by
                funext u
                show zup (zup (zup (zup (zup s 0 0 0) 46 0 (s 46 0 + 1)) 48 (600 * w + s 47 w) b) 49 (600 * w + s 47 w) m) 47 w (s 47 w + 1) j u = zup (zup (zup (zup s 46 0 (s 46 0 + 1)) 48 (600 * w + s 47 w) b) 49 (600 * w + s 47 w) m) 47 w (s 47 w + 1) j u
                rw [zup_cm (s := s) (j := 0) (j' := 46) (by decide), zup_cm (j := 0) (j' := 48) (by decide), zup_cm (j := 0) (j' := 49) (by decide), zup_cm (j := 0) (j' := 47) (by decide)]
                exact zup_j a1
              refine ⟨_, sc, ?_, _, ?_, N4, F⟩
              · show zup s 0 0 0 0 0 = 0
                exact zup_s
              · show zm209 (some (13, 0)) (zE x) (zE y) (zE c) (zE b) (zE m) h' = _
                have e61 : zm209_61 (some (13, 0)) (zE b) (zE m) (zE (2 * k)) (zE c) H = some (.inl (zE (s 47 w + 1)), zsi (zsi (zsi (zsi H 248 0 (600 * w + s 47 w).toNat (zE b)) 149 0 (600 * w + s 47 w).toNat (zE m)) 147 0 w.toNat (zE (s 47 w + 1))) 13 0 46 (zE (s 46 0 + 1))) := by
                  have r1 : zup s 0 0 0 47 w = s 47 w := rfl
                  have r2 : zup (zup s 0 0 0) 48 (600 * w + s 47 w) b 47 w = s 47 w := rfl
                  have r3 : zup (zup (zup s 0 0 0) 48 (600 * w + s 47 w) b) 49 (600 * w + s 47 w) m 47 w = s 47 w := rfl
                  have r4 : zadS (zup s 0 0 0) w b m 46 0 = s 46 0 := rfl
                  have r5 : zadS (zup (zup s 0 0 0) 46 0 (s 46 0 + 1)) w b m 47 w = s 47 w + 1 := by
                    rw [zad_47, if_pos rfl]
                    rfl
                  have ew : 600 * w + s 47 w < 14400 := by omega
                  have ep : (600 : Int32) * zE w + zE (s 47 w) = zE (600 * w + s 47 w) := by rw [zE_600, zE_mul, zE_add]
                  rw [zm209_61, zE_add, ← hw, zlet_s, zM_ob, zMi47 N0 w0 w1', r1, ep, zMa48 N0 (by omega) ew, zif_s (zE_01 hb), zlet_s, zMi47 N1 w0 w1', r2, ep, zMa49 N1 (by omega) ew, zlet_s, zMi47 N2 w0 w1', r3, zMa47 N2 w0 w1', zE_1, zE_add, zlet_s, zMs46 N3, r4, zE_add, zlet_s, zMi47 N4 w0 w1', r5]
                have e47 : zm209_47 (some (13, 0)) (zE c) (zE b) (zE m) (zE k) (some (13, 0)) (zE 0) (zsi h' 13 0 0 (zE 0)) = zm209_61 (some (13, 0)) (zE b) (zE m) (zE (2 * k)) (zE c) H := by
                  rw [zm209_47, zM_ob, zlet_s, zM_ob, hH, g0, zE_0, if_pos (Int32.le_refl _), zE_2, zE_mul]
                  rcases hc with rfl | rfl
                  · rw [if_pos rfl]
                  · rw [if_neg z1, zE_1]
                rw [M15 h' hM', if_neg (by rw [zE_inj (by omega) (by omega) (by omega) (by omega)]; exact f1), if_neg (by rw [zE_inj (by omega) (by omega) (by omega) (by omega)]; exact f2), if_neg (by rw [zE_inj (by omega) (by omega) (by omega) (by omega)]; exact f3), e47, e61]
    · refine zexI (t := 1) hC hW (by omega) (by omega) ?_ (fun h' hM' => bad1 h' hM' (fun z => qm z.2))
      show zm101 (some (12, 0)) (zE x) (zE y) (zE c) (zE b) (zE m) h = some (.inr 0, zro h 1 6)
      rw [zm101, zo_12, d1 q, zb_s, zE_0, zE_60000, c131, if_neg qm, zb_x]
  · refine zexI (t := 1) hC hW (by omega) (by omega) ?_ (fun h' hM' => bad1 h' hM' (fun z => q z.1))
    show zm101 (some (12, 0)) (zE x) (zE y) (zE c) (zE b) (zE m) h = some (.inr 0, zro h 1 6)
    rw [zm101, zo_12, d2 q, zb_x]
