set_option maxRecDepth 16384
/-! begin and end: both sides. -/
theorem zas_s {α : Type} {f : Nat → Nat → Nat → Nat → Nat → Option α} {k i k2 i2 n : Nat} {q w : zq} {a : Int} {h : zH} (e : q = some (k, i)) (e2 : w = some (k2, i2)) (hk : (ztg k == 5 && ztg k2 == 0 && zkc k == zkc k2) = true) (hn : zln h k i = n) (h0 : 0 ≤ a) (h1 : a < n) (h2 : a < 2147483648) : zas q w (zE a) h f = f k i k2 i2 a.toNat := by
  subst e
  subst e2
  show (if (ztg k == 5 && ztg k2 == 0 && zkc k == zkc k2) = true then (if zE a < 0 ∨ zln h k i ≤ (zE a).toNatClampNeg then none else f k i k2 i2 (zE a).toNatClampNeg) else none) = _
  rw [if_pos hk, zE_nat (by omega) h2, if_neg]
  rw [hn]
  rintro (h3 | h3)
  · rw [zE_0, zE_lt (by omega) h2 (by omega) (by omega)] at h3
    omega
  · omega
theorem zcnt_c {P Q : Int → Prop} {x : Int} (x0 : 0 ≤ x) : ∀ n : Nat, (∀ i : Int, 0 ≤ i → i < n → i ≠ x → (P i ↔ Q i)) → (x < n → zcnt Q n = zcnt P n + zcn1 (Q x) - zcn1 (P x)) ∧ (¬ x < n → zcnt Q n = zcnt P n)
  | 0, _ => ⟨fun z => by omega, fun _ => rfl⟩
  | n + 1, h => by
    obtain ⟨p1, p2⟩ := zcnt_c x0 n fun i a b c => h i a (by omega) c
    have eq : zcnt Q (n + 1) = zcnt Q n + zcn1 (Q n) := rfl
    have ep : zcnt P (n + 1) = zcnt P n + zcn1 (P n) := rfl
    by_cases e : x = (n : Int)
    · subst e
      refine ⟨fun _ => ?_, fun z => by omega⟩
      rw [eq, ep, p2 (by omega)]
      omega
    · have e3 : zcn1 (Q n) = zcn1 (P n) := (zcn1_cg (h n (by omega) (by omega) (fun z => e z.symm))).symm
      refine ⟨fun z => ?_, fun z => ?_⟩
      · rw [eq, ep, e3, p1 (by omega)]
        omega
      · rw [eq, ep, e3, p2 (by omega)]
def zse1 (h : zH) (s : zS) (v c w d : Int) : zH := zsi (zsr h 29 v.toNat c.toNat (zrf 0 w)) 12 0 15 (zE (s 19 0 + d))
noncomputable def zse2 (h : zH) (s : zS) (v c a w d : Int) : zH := zsi (zse1 h s v c w d) 0 a.toNat 10 (zE (zus s a + d))
noncomputable def zse3 (h : zH) (s : zS) (v c a w d : Int) : zH := zsi (zse2 h s v c a w d) 21 a.toNat (zrgf c).toNat (zE (zss s a (zrgf c) + d))
def zseS (s : zS) (v c w d : Int) : zS := zup (zup s 18 (200 * v + c) w) 19 0 (s 19 0 + d)
theorem zseS_18 {s : zS} {v c w d x : Int} : zseS s v c w d 18 x = if x = 200 * v + c then w else s 18 x := by
  show zup s 18 (200 * v + c) w 18 x = _
  by_cases e : x = 200 * v + c
  · rw [e, zup_s, if_pos rfl]
  · rw [zup_a e, if_neg e]
theorem zseS_u {s : zS} {v c a o w d : Int} (v0 : 0 ≤ v) (v1 : v < 4) (c0 : 0 ≤ c) (c1 : c < 200) (ho : s 18 (200 * v + c) = o) (hd : (o = -1 ∧ w = a ∧ d = 1) ∨ (o = a ∧ w = -1 ∧ d = -1)) {u : Int} (u0 : 0 ≤ u) : (zus (zseS s v c w d) u = if u = a then zus s u + d else zus s u) ∧ ∀ g, zss (zseS s v c w d) u g = if u = a ∧ g = zrgf c then zss s u g + d else zss s u g := by
  have x0 : 0 ≤ 200 * v + c := by omega
  have x1 : 200 * v + c < ((800 : Nat) : Int) := by omega
  have xr : (200 * v + c) % 200 = c := by omega
  have k1 := (zcnt_c (P := fun k => s 18 k = u) (Q := fun k => zseS s v c w d 18 k = u) x0 800 (fun i _ _ e => by rw [zseS_18, if_neg e])).1 x1
  have k2 : ∀ g, zss (zseS s v c w d) u g = zss s u g + zcn1 (zseS s v c w d 18 (200 * v + c) = u ∧ zrg ((200 * v + c) % 200) g) - zcn1 (s 18 (200 * v + c) = u ∧ zrg ((200 * v + c) % 200) g) := fun g => (zcnt_c (P := fun k => s 18 k = u ∧ zrg (k % 200) g) (Q := fun k => zseS s v c w d 18 k = u ∧ zrg (k % 200) g) x0 800 (fun i _ _ e => by rw [zseS_18, if_neg e])).1 x1
  have e1 : zus (zseS s v c w d) u = zus s u + zcn1 (zseS s v c w d 18 (200 * v + c) = u) - zcn1 (s 18 (200 * v + c) = u) := by
    have f1 : zus (zseS s v c w d) u = zcnt (fun k => s 12 k = u) 12 + (zcnt (fun k => s 13 k = u) 12 + zcnt (fun k => zseS s v c w d 18 k = u) 800) := rfl
    have f2 : zus s u = zcnt (fun k => s 12 k = u) 12 + (zcnt (fun k => s 13 k = u) 12 + zcnt (fun k => s 18 k = u) 800) := rfl
    rw [f1, f2, k1]
    try dsimp only
    omega
  have e18 : zseS s v c w d 18 (200 * v + c) = w := by rw [zseS_18, if_pos rfl]
  rw [e18, ho] at e1
  simp only [e18, ho, xr] at k2
  refine ⟨?_, fun g => ?_⟩
  · by_cases e : u = a
    · rw [if_pos e, e1]
      rcases hd with ⟨h1, h2, h3⟩ | ⟨h1, h2, h3⟩
      · rw [zcn1_t (by omega : w = u), zcn1_f (by omega : ¬ o = u)]; omega
      · rw [zcn1_f (by omega : ¬ w = u), zcn1_t (by omega : o = u)]; omega
    · rw [if_neg e, e1, zcn1_f (by omega : ¬ w = u), zcn1_f (by omega : ¬ o = u)]; omega
  · rw [k2 g]
    by_cases e : u = a ∧ g = zrgf c
    · have e3 : zrg c g := zrgf_e.mpr e.2
      rw [if_pos e]
      rcases hd with ⟨h1, h2, h3⟩ | ⟨h1, h2, h3⟩
      · rw [zcn1_t ⟨(by omega : w = u), e3⟩, zcn1_f fun z => (by omega : ¬ o = u) z.1]; omega
      · rw [zcn1_f fun z => (by omega : ¬ w = u) z.1, zcn1_t ⟨(by omega : o = u), e3⟩]; omega
    · have e3 : ∀ y : Int, (y = w ∨ y = o) → ¬ (y = u ∧ zrg c g) := fun y hy z => by
        have e4 : ¬ g = zrgf c ∨ ¬ u = a := (Classical.em (u = a)).elim (fun p => Or.inl fun q => e ⟨p, q⟩) Or.inr
        rcases e4 with e4 | e4
        · exact e4 (zrgf_e.mp z.2)
        · have := z.1; omega
      rw [if_neg e, zcn1_f (e3 w (Or.inl rfl)), zcn1_f (e3 o (Or.inr rfl))]; omega
theorem zw_ses {h : zH} {s : zS} {v c a o w d : Int} (hC : zCl h s) (v0 : 0 ≤ v) (v1 : v < 4) (c0 : 0 ≤ c) (c1 : c < 200) (a0 : 0 ≤ a) (a1 : a < s 2 0) (ho : s 18 (200 * v + c) = o) (hd : (o = -1 ∧ w = a ∧ d = 1) ∨ (o = a ∧ w = -1 ∧ d = -1)) : zCl (zse3 h s v c a w d) (zseS s v c w d) := by
  obtain ⟨C1, C2, C3, C4, C5, C6, C7, C8, C9, C10, C11, C12, C13, C14⟩ := hC
  obtain ⟨b1, b2, b3, b4, b5, b6, b7⟩ := C2
  refine ⟨C1, ?_, ⟨C3.1, fun u u0 u1 => ?_⟩, C4, C5, C6, C7, C8, ⟨C9.1, fun u u0 u1 => ?_⟩, C10, C11, C12, zCM_w C13 ((((zKp_r (by decide)).tr (zKp_i (by decide))).tr (zKp_i (by decide))).tr (zKp_i (by decide))) rfl rfl rfl rfl, C14⟩
  · have hz : ∀ j, j ≠ 15 → zi (zse3 h s v c a w d) 12 0 j = zi h 12 0 j := fun j hj => by
      show zi (zse1 h s v c w d) 12 0 j = _
      exact zi_j hj
    refine ⟨(hz 11 (by decide)).trans b1, (hz 13 (by decide)).trans b2, (hz 14 (by decide)).trans b3, ?_, (hz 16 (by decide)).trans b5, (hz 17 (by decide)).trans b6, fun z => (hz 12 (by decide)).trans (b7 z)⟩
    show zi (zse1 h s v c w d) 12 0 15 = zE (zup (zup s 18 (200 * v + c) w) 19 0 (s 19 0 + d) 19 0)
    rw [zup_s]
    exact zi_s
  · obtain ⟨p0, p1, p2, p3, p4, p5, p6, p7, p8, p9, p10, p11, p12, p13, p14⟩ := C3.2 u u0 u1
    have hz : ∀ j, j ≠ 10 → zi (zse3 h s v c a w d) 0 u.toNat j = zi h 0 u.toNat j := fun j hj => by
      show zi (zse2 h s v c a w d) 0 u.toNat j = _
      exact zi_j hj
    obtain ⟨q1, q2⟩ := zseS_u v0 v1 c0 c1 ho hd u0
    refine ⟨p0, (hz 0 (by decide)).trans p1, (hz 1 (by decide)).trans p2, (hz 2 (by decide)).trans p3, (hz 3 (by decide)).trans p4, (hz 4 (by decide)).trans p5, (hz 5 (by decide)).trans p6, (hz 6 (by decide)).trans p7, (hz 7 (by decide)).trans p8, (hz 8 (by decide)).trans p9, (hz 9 (by decide)).trans p10, ?_, p12, p13, fun g g0 g1 => ?_⟩
    · show zi (zse2 h s v c a w d) 0 u.toNat 10 = _
      rw [q1]
      by_cases e : u = a
      · subst e
        rw [if_pos rfl]
        exact zi_s
      · rw [if_neg e]
        exact (zi_i (by omega)).trans p11
    · rw [q2 g]
      show zi (zsi (zse2 h s v c a w d) 21 a.toNat (zrgf c).toNat (zE (zss s a (zrgf c) + d))) 21 u.toNat g.toNat = _
      have hr := zrgf_r c
      by_cases e : u = a
      · subst e
        by_cases e2 : g = zrgf c
        · subst e2
          rw [if_pos ⟨rfl, rfl⟩]
          exact zi_s
        · rw [if_neg fun z => e2 z.2]
          exact (zi_j (by omega)).trans (p14 g g0 g1)
      · rw [if_neg fun z => e z.1]
        exact (zi_i (by omega)).trans (p14 g g0 g1)
  · obtain ⟨p0, p1, p2, p3, p4, p5, p6, p7, p8, p9, p10, p11, p12, p13, p14⟩ := C9.2 u u0 u1
    refine ⟨p0, p1, p2, p3, p4, p5, p6, p7, p8, fun k k0 k1 => ?_, p10, p11, p12, p13, p14⟩
    rw [zseS_18]
    show zr (zsr h 29 v.toNat c.toNat (zrf 0 w)) 29 u.toNat k.toNat = _
    by_cases e : u = v
    · subst e
      by_cases e2 : k = c
      · subst e2
        rw [if_pos rfl]
        exact zr_s
      · rw [if_neg (by omega)]
        exact (zr_j (by omega)).trans (p9 k k0 k1)
    · rw [if_neg (by omega)]
      exact (zr_i (by omega)).trans (p9 k k0 k1)
theorem zse_k {h : zH} {s : zS} {v c a w d : Int} : zKp (fun k => ¬ zpc1 k) h (zse3 h s v c a w d) :=
  (((zKp_r (fun z => z (by unfold zpc1; decide))).tr (zKp_i (fun z => z (by unfold zpc1; decide)))).tr (zKp_i (fun z => z (by unfold zpc1; decide)))).tr (zKp_i (fun z => z (by unfold zpc1; decide)))
theorem zseS_W {s : zS} {v c a o w d : Int} (hW : zWf s) (v0 : 0 ≤ v) (v1 : v < 4) (c0 : 0 ≤ c) (c1 : c < 200) (a0 : 0 ≤ a) (a1 : a < s 2 0) (a2 : s 3 a = v) (ho : s 18 (200 * v + c) = o) (hd : (o = -1 ∧ w = a ∧ d = 1 ∧ s 19 0 < 40) ∨ (o = a ∧ w = -1 ∧ d = -1)) : zWf (zseS s v c w d) := by
  obtain ⟨wA, wK, wC, wD, wP, wR, wZ, wT, wG, wE, wM, wX⟩ := hW
  have hq := wX.2.2.2.2.2.2.2.2
  have x0 : 0 ≤ 200 * v + c := by omega
  have x1 : 200 * v + c < ((800 : Nat) : Int) := by omega
  have k1 := (zcnt_c (P := fun k => s 18 k ≠ -1) (Q := fun k => zseS s v c w d 18 k ≠ -1) x0 800 (fun i _ _ e => by rw [zseS_18, if_neg e])).1 x1
  have e19 : zseS s v c w d 19 0 = s 19 0 + d := zup_s
  have e18 : zseS s v c w d 18 (200 * v + c) = w := by rw [zseS_18, if_pos rfl]
  have n0 := zcnt_r (fun k => zseS s v c w d 18 k ≠ -1) 800
  have k2 : s 19 0 + d = zcnt (fun k => zseS s v c w d 18 k ≠ -1) 800 := by
    rw [k1, hq]
    try dsimp only
    rw [e18, ho]
    rcases hd with ⟨h1, h2, h3, h4⟩ | ⟨h1, h2, h3⟩
    · rw [zcn1_t (by omega : w ≠ -1), zcn1_f (by omega : ¬ o ≠ -1)]; omega
    · rw [zcn1_f (by omega : ¬ w ≠ -1), zcn1_t (by omega : o ≠ -1)]; omega
  refine ⟨wA, wK, ⟨?_, fun u u0 u1 => ?_⟩, wD, wP, wR, wZ, wT, wG, wE, wM, wX.1, wX.2.1, wX.2.2.1, wX.2.2.2.1, wX.2.2.2.2.1, wX.2.2.2.2.2.1, wX.2.2.2.2.2.2.1, wX.2.2.2.2.2.2.2.1, ?_⟩
  · rw [e19]
    have := wC.1
    omega
  · show -1 ≤ zseS s v c w d 18 u ∧ zseS s v c w d 18 u < s 2 0 ∧ (zseS s v c w d 18 u ≠ -1 → s 3 (zseS s v c w d 18 u) = u / 200)
    rw [zseS_18]
    by_cases e : u = 200 * v + c
    · rw [if_pos e]
      rcases hd with ⟨h1, h2, h3, h4⟩ | ⟨h1, h2, h3⟩
      · subst h2
        refine ⟨by omega, a1, fun _ => ?_⟩
        rw [a2]; omega
      · subst h2
        exact ⟨by omega, by omega, fun z => absurd rfl z⟩
    · rw [if_neg e]
      exact wC.2 u u0 u1
  · rw [e19]
    exact k2
theorem zsnf_v {s : zS} (hK : zWk s) (hC : zWc s) {v c : Int} (v1 : 0 ≤ v) (v2 : v < 4) (c1 : 0 ≤ c) (c2 : c < 200) (e : zsnf s v c ≠ -1) : s 3 (zsnf s v c) = v := by
  have hr := zrgf_r c
  obtain ⟨k1, k2, k3, k4, k5, k6⟩ := hK (3 * v + zrgf c) (by omega) (by omega)
  obtain ⟨q1, q2, q3⟩ := hC.2 (200 * v + c) (by omega) (by omega)
  unfold zsnf at e ⊢
  by_cases e1 : s 18 (200 * v + c) = -1
  · rw [if_pos e1] at e ⊢
    by_cases e2 : (37 * c + 11 * v) % 100 < s 14 (3 * v + zrgf c)
    · rw [if_pos e2] at e ⊢
      rw [k6 e]; omega
    · rw [if_neg e2] at e ⊢
      rw [k5 e]; omega
  · rw [if_neg e1] at e ⊢
    rw [q3 e]; omega
theorem zp199_x {x1 x2 x3 : Int32} {h : zH} : zm199_33 (some (13, 0)) x1 x2 x3 (some (13, 0)) (zE 2) h = some (.inl (zE 0), zsi h 13 0 0 (zE 2)) := by
  rw [zm199_33, zM_ob, zlet_s, zM_ob, if_neg, zE_0]
  rw [zi_s, zE_0, zE_le (by omega) (by omega) (by omega) (by omega)]
  omega
theorem zp200_x {x1 x2 x3 : Int32} {h : zH} : zm200_23 (some (13, 0)) x1 x2 x3 (some (13, 0)) (zE 2) h = some (.inl (zE 0), zsi h 13 0 0 (zE 2)) := by
  rw [zm200_23, zM_ob, zlet_s, zM_ob, if_neg, zE_0]
  rw [zi_s, zE_0, zE_le (by omega) (by omega) (by omega) (by omega)]
  omega
/-- both sides throw; the model has been told once more what it throws -/
theorem zexI2 {C M : zH → zRs Int32} {ex : Int → Nat} {tm t : Int} {h : zH} {s : zS} (hC : zCl h s) (hW : zWf s) (t1 : 1 ≤ t) (t2 : t ≤ tm) (c : C h = some (.inr (ex t), zro h 1 6)) (m : ∀ h', zMd h' s → ∃ u, M h' = some (.inl (zE 0), zsi (zsi h' 13 0 0 (zE u)) 13 0 0 (zE t))) :
    ∃ (t v w : Int) (s' : zS), 0 ≤ t ∧ t ≤ tm ∧ zWf s' ∧ ((t = 0 ∧ zCct h s' (C h) (.inl (zE v))) ∨ (t ≠ 0 ∧ zCct h s' (C h) (.inr (ex t)))) ∧ (t = 0 → w = v) ∧ ∀ h', zMd h' s → ∃ s'', zsc s' s'' ∧ s'' 0 0 = t ∧ zMct h' s'' (M h') (zE w) :=
  ⟨t, 0, 0, s, by omega, t2, hW, Or.inr ⟨by omega, _, c, hC.kp zKp_o, zKp_o, by show zce h + 1 ≤ _; omega, by show zso h + 6 ≤ _; omega⟩, fun _ => rfl, fun h' hM' => by
    obtain ⟨u, m⟩ := m h' hM'
    exact ⟨zup (zup s 0 0 u) 0 0 t, zsc_up.tr zsc_up, zup_s, _, m, (hM'.ws 0 (by decide) u).ws 0 (by decide) t, (zKp_i (fun z => z (Or.inl rfl))).tr (zKp_i (fun z => z (Or.inl rfl))), rfl, rfl⟩⟩
theorem zob_f {α : Type} {f : Nat → Nat → Option α} {k ci : Nat} {a : Int} (hk : (ztg k == 0 && zkc k == ci) = true) (h : 0 ≤ a) : zob ci (zrf k a) f = f k a.toNat := by
  rw [zrf_s h]
  exact zob_s hk
theorem zr_begin (x y : Int32) : zPrI (fun h => zm91 (some (12, 0)) x y h) (fun h => zm199 (some (13, 0)) x y h) (fun t => if t = 1 then 0 else 1) 2 := by
  intro h s hC hM hW
  obtain ⟨v, rfl, v1, v2⟩ := zE_ex x
  obtain ⟨c, rfl, c1, c2⟩ := zE_ex y
  have z1 : ¬ zE 1 = zE 0 := by decide
  have hC0 := hC
  have hW0 := hW
  obtain ⟨cr, cs, cA, -, -, -, -, -, cV, cK, -⟩ := hC
  obtain ⟨wA, wK, wC, wD, wP, wR, wZ, wT, wG, wE, wM, wX⟩ := hW
  have m := fun h' (hM' : zMd h' s) => zp196 hM' v1 v2 c1 c2
  by_cases q : (0 ≤ v ∧ v ≤ 3) ∧ 0 ≤ c ∧ c ≤ 199
  · obtain ⟨q1, q2⟩ := q
    have m1 := fun h' hM' => (m h' hM').1 ⟨q1, q2⟩
    have r1 := zsnf_r wK wC (v := v) (c := c) q1.1 (by omega) q2.1 (by omega)
    have r2 := wC.2 (200 * v + c) (by omega) (by omega)
    have r3 := wC.1
    have hn := wA.1
    have e89 := zc89 cr cV cK wA wK wC q1.1 (show v < 4 by omega) q2.1 (show c < 200 by omega)
    have m2 : ∀ h', zMd h' s → zm195 (some (13, 0)) (zE v) (zE c) (zsi h' 13 0 0 (zE 0)) = some (.inl (zE (zsnf s v c)), zsi h' 13 0 0 (zE 0)) := fun h' hM' => zp195 (hM'.ws 0 (by decide) 0) (show zWa (zup s 0 0 0) from wA) (show zWk (zup s 0 0 0) from wK) (show zWc (zup s 0 0 0) from wC) q1.1 (show v < 4 by omega) q2.1 (show c < 200 by omega)
    have m3 : ∀ h', zMd h' s → ∀ f : Int32 → zRs Int32, zri (zr (zsi h' 13 0 0 (zE 0)) 13 0 18) (zE (200 * v + c)) (zsi h' 13 0 0 (zE 0)) f = f (zE (s 18 (200 * v + c))) := fun h' hM' f => by
      rw [zMi18 (hM'.ws 0 (by decide) 0) (by omega) (by omega)]
      rfl
    have m4 : ∀ h', zMd h' s → zi (zsi h' 13 0 0 (zE 0)) 13 0 19 = zE (s 19 0) := fun h' hM' => by
      have := zMs19 (hM'.ws 0 (by decide) 0)
      exact this
    by_cases e1 : s 18 (200 * v + c) = -1
    · by_cases e2 : zsnf s v c = -1
      · refine zexI2 (t := 2) hC0 hW0 (by omega) (by omega) ?_ (fun h' hM' => ⟨0, ?_⟩)
        · simp (discharger := omega) only [zm91, zE_0, zE_1, zE_2, zE_3, zE_4, zE_5, zE_6, zE_7, zE_8, zE_9, zE_10, zE_11, zE_12, zE_13, zE_14, zE_neg, zE_199, zc131, if_pos q1, if_pos q2, ↓zb_s, ↓zo_12, ↓zLVa cr cV, ↓zo_9, ↓zlet_s, e89, ↓zLSa cV, e1, e2, zrf_n, if_true]
          rfl
        · simp (discharger := omega) only [zm199, zE_0, zE_1, zE_2, zE_3, zE_4, zE_5, zE_6, zE_7, zE_8, zE_9, zE_10, zE_11, zE_12, zE_13, zE_14, zE_neg, zE_200, zE_mul, zE_add, ↓zM_ob, m1 h' hM', ↓zb_s, z1, if_false, m2 h' hM', m3 h' hM', e1, e2, if_true]
          exact zp199_x
      · have e3 : ¬ zrf 0 (zsnf s v c) = none := by rw [zrf_z r1.1]; exact e2
        by_cases e4 : s 19 0 < 40
        · have hd : ((-1 : Int) = -1 ∧ zsnf s v c = zsnf s v c ∧ (1 : Int) = 1) ∨ ((-1 : Int) = zsnf s v c ∧ zsnf s v c = -1 ∧ (1 : Int) = -1) := Or.inl ⟨rfl, rfl, rfl⟩
          have a0 : 0 ≤ zsnf s v c := by omega
          have a3 := zsnf_v wK wC q1.1 (show v < 4 by omega) q2.1 (show c < 200 by omega) e2
          have hCn := zw_ses hC0 q1.1 (show v < 4 by omega) q2.1 (show c < 200 by omega) a0 r1.2 e1 hd
          have hWn := zseS_W (d := 1) hW0 q1.1 (by omega) q2.1 (by omega) a0 r1.2 a3 e1 (Or.inl ⟨rfl, rfl, rfl, e4⟩)
          refine zokI (v := zsnf s v c) (by omega) hWn (h1 := zse3 h s v c (zsnf s v c) (zsnf s v c) 1) ?_ hCn zse_k (by show zce h ≤ _; omega) (by show zso h ≤ _; omega) (fun h' hM' => ?_)
          · simp (discharger := omega) only [zm91, zE_0, zE_1, zE_2, zE_3, zE_4, zE_5, zE_6, zE_7, zE_8, zE_9, zE_10, zE_11, zE_12, zE_13, zE_14, zE_neg, zE_199, zE_40, zc131, if_pos q1, if_pos q2, ↓zb_s, ↓zo_12, ↓zLVa cr cV, ↓zo_9, ↓zlet_s, e89, ↓zLSa cV, e1, zrf_n, if_true, e3, if_false, zCs15 cs, zE_lt, e4]
            have hr := zrgf_r c
            generalize zsnf s v c = a at *
            rw [zas_s (zCv2 cV q1.1 (by omega)) (zrf_s a0) rfl (zCvL2 cV q1.1 (by omega)) q2.1 (by omega) (by omega)]
            rw [← zrf_s (k := 0) a0, show zi (zsr h 29 v.toNat c.toNat (zrf 0 a)) 12 0 15 = zE (s 19 0) from zCs15 cs, zE_add]
            rw [show zsi (zsr h 29 v.toNat c.toNat (zrf 0 a)) 12 0 15 (zE (s 19 0 + 1)) = zse1 h s v c a 1 from rfl, zob_f rfl a0]
            rw [show zi (zse1 h s v c a 1) 0 a.toNat 10 = zE (zus s a) from zCa10 cA a0 r1.2, zE_add]
            rw [show zsi (zse1 h s v c a 1) 0 a.toNat 10 (zE (zus s a + 1)) = zse2 h s v c a a 1 from rfl, zc135 q2.1 (by omega), zb_s]
            have f1 : zr (zse2 h s v c a a 1) 0 a.toNat 11 = some (21, a.toNat) := zCa11 cA a0 r1.2
            have f2 : zln (zse2 h s v c a a 1) 21 a.toNat = 3 := zCaL cA a0 r1.2
            have f3 : zi (zse2 h s v c a a 1) 21 a.toNat (zrgf c).toNat = zE (zss s a (zrgf c)) := zCaS cA a0 r1.2 _ hr.1 (by omega)
            rw [zri_s f1 rfl f2 hr.1 (by omega) (by omega) f3, zar_s f1 rfl f2 hr.1 (by omega) (by omega), zE_add]
            have f4 : zi (zse3 h s v c a a 1) 0 a.toNat 0 = zE a := by
              show zi (zse2 h s v c a a 1) 0 a.toNat 0 = _
              exact (zi_j (by decide)).trans (zCa0 cA a0 r1.2)
            show some (Sum.inl (zi (zse3 h s v c a a 1) 0 a.toNat 0), zse3 h s v c a a 1) = _
            rw [f4]
          · have hM1 := hM'.ws 0 (by decide) 0
            have hM2 := hM1.ws 0 (by decide) 0
            have hM3 := hM2.wa (18, 118, 800) (by decide) (200 * v + c) (zsnf s v c) (by omega)
            have hM4 := hM3.ws 19 (by decide) (s 19 0 + 1)
            have e5 : zup (zup (zup s 0 0 0) 0 0 0) 18 (200 * v + c) (zsnf s v c) 19 0 = s 19 0 := rfl
            refine ⟨_, zsc_c (zsc_c (zsc_up.tr zsc_up)), (zup_j (by decide)).trans ((zup_j (by decide)).trans zup_s), _, ?_, hM4, (((zKp_i (fun z => z (Or.inl rfl))).tr (zKp_i (fun z => z (Or.inl rfl)))).tr (zKp_i (fun z => z (Or.inr (by decide))))).tr (zKp_i (fun z => z (Or.inl rfl))), rfl, rfl⟩
            show zm199 (some (13, 0)) (zE v) (zE c) h' = _
            have e6 : ¬ s 19 0 = 40 := by omega
            simp (discharger := omega) only [zm199, zm199_33, zE_0, zE_1, zE_2, zE_3, zE_4, zE_5, zE_6, zE_7, zE_8, zE_9, zE_10, zE_11, zE_12, zE_13, zE_14, zE_neg, zE_200, zE_40, zE_mul, zE_add, ↓zM_ob, m1 h' hM', ↓zb_s, z1, if_false, m2 h' hM', m3 h' hM', e1, zE_inj, e2, if_true, m4 h' hM', e6, ↓zlet_s, zMs0 hM2, zup_s, Int32.le_refl, ↓zMa18 hM2, zMs19 hM3, e5]
        · have e5 : s 19 0 = 40 := by omega
          refine zexI2 (t := 2) hC0 hW0 (by omega) (by omega) ?_ (fun h' hM' => ⟨0, ?_⟩)
          · simp (discharger := omega) only [zm91, zE_0, zE_1, zE_2, zE_3, zE_4, zE_5, zE_6, zE_7, zE_8, zE_9, zE_10, zE_11, zE_12, zE_13, zE_14, zE_neg, zE_199, zE_40, zc131, if_pos q1, if_pos q2, ↓zb_s, ↓zo_12, ↓zLVa cr cV, ↓zo_9, ↓zlet_s, e89, ↓zLSa cV, e1, e3, if_false, zrf_n, if_true, zCs15 cs, zE_lt, e4]
            rfl
          · simp (discharger := omega) only [zm199, zE_0, zE_1, zE_2, zE_3, zE_4, zE_5, zE_6, zE_7, zE_8, zE_9, zE_10, zE_11, zE_12, zE_13, zE_14, zE_neg, zE_200, zE_40, zE_mul, zE_add, ↓zM_ob, m1 h' hM', ↓zb_s, z1, if_false, m2 h' hM', m3 h' hM', e1, zE_inj, e2, m4 h' hM', e5, if_true]
            exact zp199_x
    · have e3 : ¬ zrf 0 (s 18 (200 * v + c)) = none := by rw [zrf_z r2.1]; exact e1
      refine zexI2 (t := 2) hC0 hW0 (by omega) (by omega) ?_ (fun h' hM' => ⟨0, ?_⟩)
      · simp (discharger := omega) only [zm91, zE_0, zE_1, zE_2, zE_3, zE_4, zE_5, zE_6, zE_7, zE_8, zE_9, zE_10, zE_11, zE_12, zE_13, zE_14, zE_neg, zE_199, zc131, if_pos q1, if_pos q2, ↓zb_s, ↓zo_12, ↓zLVa cr cV, ↓zo_9, ↓zlet_s, e89, ↓zLSa cV, e3, if_false]
        rfl
      · simp (discharger := omega) only [zm199, zE_0, zE_1, zE_2, zE_3, zE_4, zE_5, zE_6, zE_7, zE_8, zE_9, zE_10, zE_11, zE_12, zE_13, zE_14, zE_neg, zE_200, zE_mul, zE_add, ↓zM_ob, m1 h' hM', ↓zb_s, z1, if_false, m2 h' hM', m3 h' hM', zE_inj, e1]
        exact zp199_x
  · have m1 := fun h' hM' => (m h' hM').2 q
    refine zexI (t := 1) hC0 hW0 (by omega) (by omega) ?_ (fun h' hM' => ?_)
    · show zm91 (some (12, 0)) (zE v) (zE c) h = some (.inr 0, zro h 1 6)
      by_cases q1 : 0 ≤ v ∧ v ≤ 3
      · have q2 : ¬ (0 ≤ c ∧ c ≤ 199) := fun z => q ⟨q1, z⟩
        simp (discharger := omega) only [zm91, zE_0, zE_1, zE_2, zE_3, zE_4, zE_5, zE_6, zE_7, zE_8, zE_9, zE_10, zE_11, zE_12, zE_13, zE_14, zE_neg, zE_199, zc131, if_pos q1, if_neg q2, ↓zb_s, ↓zb_x]
      · simp (discharger := omega) only [zm91, zE_0, zE_1, zE_2, zE_3, zE_4, zE_5, zE_6, zE_7, zE_8, zE_9, zE_10, zE_11, zE_12, zE_13, zE_14, zE_neg, zE_199, zc131, if_neg q1, ↓zb_x]
    · simp (discharger := omega) only [zm199, zE_0, zE_1, zE_2, zE_3, zE_4, zE_5, zE_6, zE_7, zE_8, zE_9, zE_10, zE_11, zE_12, zE_13, zE_14, zE_neg, ↓zM_ob, m1 h' hM', ↓zb_s, if_true]
theorem zr_end (x y : Int32) : zPrI (fun h => zm92 (some (12, 0)) x y h) (fun h => zm200 (some (13, 0)) x y h) (fun t => if t = 1 then 0 else 1) 2 := by
  intro h s hC hM hW
  obtain ⟨v, rfl, v1, v2⟩ := zE_ex x
  obtain ⟨c, rfl, c1, c2⟩ := zE_ex y
  have z1 : ¬ zE 1 = zE 0 := by decide
  have hC0 := hC
  have hW0 := hW
  obtain ⟨cr, cs, cA, -, -, -, -, -, cV, cK, -⟩ := hC
  obtain ⟨wA, wK, wC, wD, wP, wR, wZ, wT, wG, wE, wM, wX⟩ := hW
  have m := fun h' (hM' : zMd h' s) => zp196 hM' v1 v2 c1 c2
  by_cases q : (0 ≤ v ∧ v ≤ 3) ∧ 0 ≤ c ∧ c ≤ 199
  · obtain ⟨q1, q2⟩ := q
    have m1 := fun h' hM' => (m h' hM').1 ⟨q1, q2⟩
    have r2 := wC.2 (200 * v + c) (by omega) (by omega)
    have r3 := wC.1
    have hn := wA.1
    have m3 : ∀ h', zMd h' s → ∀ f : Int32 → zRs Int32, zri (zr (zsi h' 13 0 0 (zE 0)) 13 0 18) (zE (200 * v + c)) (zsi h' 13 0 0 (zE 0)) f = f (zE (s 18 (200 * v + c))) := fun h' hM' f => by
      rw [zMi18 (hM'.ws 0 (by decide) 0) (by omega) (by omega)]
      rfl
    by_cases e1 : s 18 (200 * v + c) = -1
    · refine zexI2 (t := 2) hC0 hW0 (by omega) (by omega) ?_ (fun h' hM' => ⟨0, ?_⟩)
      · simp (discharger := omega) only [zm92, zE_0, zE_1, zE_2, zE_3, zE_4, zE_5, zE_6, zE_7, zE_8, zE_9, zE_10, zE_11, zE_12, zE_13, zE_14, zE_neg, zE_199, zc131, if_pos q1, if_pos q2, ↓zb_s, ↓zo_12, ↓zLVa cr cV, ↓zo_9, ↓zlet_s, ↓zLSa cV, e1, zrf_n, if_true]
        rfl
      · simp (discharger := omega) only [zm200, zE_0, zE_1, zE_2, zE_3, zE_4, zE_5, zE_6, zE_7, zE_8, zE_9, zE_10, zE_11, zE_12, zE_13, zE_14, zE_neg, zE_200, zE_mul, zE_add, ↓zM_ob, m1 h' hM', ↓zb_s, z1, if_false, m3 h' hM', e1, if_true]
        exact zp200_x
    · have e3 : ¬ zrf 0 (s 18 (200 * v + c)) = none := by rw [zrf_z r2.1]; exact e1
      obtain ⟨a, ha⟩ : ∃ a, s 18 (200 * v + c) = a := ⟨_, rfl⟩
      rw [ha] at e1 e3 r2
      have hd : (a = -1 ∧ (-1 : Int) = a ∧ (-1 : Int) = 1) ∨ (a = a ∧ (-1 : Int) = -1 ∧ (-1 : Int) = -1) := Or.inr ⟨rfl, rfl, rfl⟩
      have a0 : 0 ≤ a := by omega
      have a3 : s 3 a = v := by rw [r2.2.2 e1]; omega
      have hCn := zw_ses hC0 q1.1 (show v < 4 by omega) q2.1 (show c < 200 by omega) a0 r2.2.1 ha hd
      have hWn := zseS_W (d := -1) hW0 q1.1 (by omega) q2.1 (by omega) a0 r2.2.1 a3 ha (Or.inr ⟨rfl, rfl, rfl⟩)
      refine zokI (v := a) (by omega) hWn (h1 := zse3 h s v c a (-1) (-1)) ?_ hCn zse_k (by show zce h ≤ _; omega) (by show zso h ≤ _; omega) (fun h' hM' => ?_)
      · simp (discharger := omega) only [zm92, zE_0, zE_1, zE_2, zE_3, zE_4, zE_5, zE_6, zE_7, zE_8, zE_9, zE_10, zE_11, zE_12, zE_13, zE_14, zE_neg, zE_199, zc131, if_pos q1, if_pos q2, ↓zb_s, ↓zo_12, ↓zLVa cr cV, ↓zo_9, ↓zlet_s, ↓zLSa cV, ha, e3, if_false]
        have hr := zrgf_r c
        rw [zar_s (zCv2 cV q1.1 (by omega)) rfl (zCvL2 cV q1.1 (by omega)) q2.1 (by omega) (by omega)]
        rw [show zi (zsr h 29 v.toNat c.toNat none) 12 0 15 = zE (s 19 0) from zCs15 cs, zE_sub, Int.sub_eq_add_neg]
        rw [show zsi (zsr h 29 v.toNat c.toNat none) 12 0 15 (zE (s 19 0 + -1)) = zse1 h s v c (-1) (-1) from rfl, zob_f rfl a0]
        rw [show zi (zse1 h s v c (-1) (-1)) 0 a.toNat 10 = zE (zus s a) from zCa10 cA a0 r2.2.1, zE_sub, Int.sub_eq_add_neg]
        rw [show zsi (zse1 h s v c (-1) (-1)) 0 a.toNat 10 (zE (zus s a + -1)) = zse2 h s v c a (-1) (-1) from rfl, zc135 q2.1 (by omega), zb_s]
        have f1 : zr (zse2 h s v c a (-1) (-1)) 0 a.toNat 11 = some (21, a.toNat) := zCa11 cA a0 r2.2.1
        have f2 : zln (zse2 h s v c a (-1) (-1)) 21 a.toNat = 3 := zCaL cA a0 r2.2.1
        have f3 : zi (zse2 h s v c a (-1) (-1)) 21 a.toNat (zrgf c).toNat = zE (zss s a (zrgf c)) := zCaS cA a0 r2.2.1 _ hr.1 (by omega)
        rw [zri_s f1 rfl f2 hr.1 (by omega) (by omega) f3, zar_s f1 rfl f2 hr.1 (by omega) (by omega), zE_sub, Int.sub_eq_add_neg]
        have f4 : zi (zse3 h s v c a (-1) (-1)) 0 a.toNat 0 = zE a := by
          show zi (zse2 h s v c a (-1) (-1)) 0 a.toNat 0 = _
          exact (zi_j (by decide)).trans (zCa0 cA a0 r2.2.1)
        show some (Sum.inl (zi (zse3 h s v c a (-1) (-1)) 0 a.toNat 0), zse3 h s v c a (-1) (-1)) = _
        rw [f4]
      · have hM1 := hM'.ws 0 (by decide) 0
        have hM2 := hM1.ws 0 (by decide) 0
        have hM3 := hM2.wa (18, 118, 800) (by decide) (200 * v + c) (-1) (by omega)
        have hM4 := hM3.ws 19 (by decide) (s 19 0 + -1)
        have e5 : zup (zup (zup s 0 0 0) 0 0 0) 18 (200 * v + c) (-1) 19 0 = s 19 0 := rfl
        refine ⟨_, zsc_c (zsc_c (zsc_up.tr zsc_up)), (zup_j (by decide)).trans ((zup_j (by decide)).trans zup_s), _, ?_, hM4, (((zKp_i (fun z => z (Or.inl rfl))).tr (zKp_i (fun z => z (Or.inl rfl)))).tr (zKp_i (fun z => z (Or.inr (by decide))))).tr (zKp_i (fun z => z (Or.inl rfl))), rfl, rfl⟩
        show zm200 (some (13, 0)) (zE v) (zE c) h' = _
        simp (discharger := omega) only [zm200, zm200_23, zE_0, zE_1, zE_2, zE_3, zE_4, zE_5, zE_6, zE_7, zE_8, zE_9, zE_10, zE_11, zE_12, zE_13, zE_14, zE_neg, zE_200, zE_mul, zE_add, ↓zM_ob, m1 h' hM', ↓zb_s, z1, if_false, m3 h' hM', ha, zE_inj, e1, ↓zlet_s, zMs0 hM2, zup_s, Int32.le_refl, if_true, ↓zMa18 hM2, zMs19 hM3, e5, zE_sub, Int.sub_eq_add_neg]
  · have m1 := fun h' hM' => (m h' hM').2 q
    refine zexI (t := 1) hC0 hW0 (by omega) (by omega) ?_ (fun h' hM' => ?_)
    · show zm92 (some (12, 0)) (zE v) (zE c) h = some (.inr 0, zro h 1 6)
      by_cases q1 : 0 ≤ v ∧ v ≤ 3
      · have q2 : ¬ (0 ≤ c ∧ c ≤ 199) := fun z => q ⟨q1, z⟩
        simp (discharger := omega) only [zm92, zE_0, zE_1, zE_2, zE_3, zE_4, zE_5, zE_6, zE_7, zE_8, zE_9, zE_10, zE_11, zE_12, zE_13, zE_14, zE_neg, zE_199, zc131, if_pos q1, if_neg q2, ↓zb_s, ↓zb_x]
      · simp (discharger := omega) only [zm92, zE_0, zE_1, zE_2, zE_3, zE_4, zE_5, zE_6, zE_7, zE_8, zE_9, zE_10, zE_11, zE_12, zE_13, zE_14, zE_neg, zE_199, zc131, if_neg q1, ↓zb_x]
    · simp (discharger := omega) only [zm200, zE_0, zE_1, zE_2, zE_3, zE_4, zE_5, zE_6, zE_7, zE_8, zE_9, zE_10, zE_11, zE_12, zE_13, zE_14, zE_neg, ↓zM_ob, m1 h' hM', ↓zb_s, if_true]
