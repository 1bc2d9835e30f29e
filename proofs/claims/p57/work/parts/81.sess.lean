set_option maxRecDepth 16384
/-! begin and end: both sides. -/
theorem zas_s {α : Type} {f : Nat → Nat → Nat → Nat → Nat → Option α} {k i k2 i2 n : Nat} {q w : zq} {a : Int} {h : zH} (e : q = some (k, i)) (e2 : w = some (k2, i2)) (hk : (ztg k == 5 && ztg k2 == 0 && zkc k == zkc k2) = true) (hn : zln h k i = n) (h0 : 0 ≤ a) (h1 : a < n) (h2 : a < 2147483648) : zas q w (zE a) h f = f k i k2 i2 a.toNat := by
  subst e
  subst e2
  show (if (ztg k == 5 && ztg k2 == 0 && zkc k == zkc k2) = true then (if zE a < 0 ∨ zln h k i ≤ (zE a).toNatClampNeg then none else f k i k2 i2 (zE a).toNatClampNeg) else none) = _
  rw [if_pos hk, zE_nat (by omega) h2, if_neg]
  rw [hn]
  rintro (h3 | h3)
  · rw [zE_0, zE_lt (by omega) h2 (by omega) (by omega)] at h3
    omega
  · omega
theorem zcnt_c {P Q : Int → Prop} {x : Int} (x0 : 0 ≤ x) : ∀ n : Nat, (∀ i : Int, 0 ≤ i → i < n → i ≠ x → (P i ↔ Q i)) → (x < n → zcnt Q n = zcnt P n + zcn1 (Q x) - zcn1 (P x)) ∧ (¬ x < n → zcnt Q n = zcnt P n)
  | 0, _ => ⟨fun z => by omega, fun _ => rfl⟩
  | n + 1, h => by
    obtain ⟨p1, p2⟩ := zcnt_c x0 n fun i a b c => h i a (by omega) c
    have eq : zcnt Q (n + 1) = zcnt Q n + zcn1 (Q n) := rfl
    have ep : zcnt P (n + 1) = zcnt P n + zcn1 (P n) := rfl
    by_cases e : x = (n : Int)
    · subst e
      refine ⟨fun _ => ?_, fun z => by omega⟩
      rw [eq, ep, p2 (by omega)]
      omega
    · have e3 : zcn1 (Q n) = zcn1 (P n) := (zcn1_cg (h n (by omega) (by omega) (fun z => e z.symm))).symm
      refine ⟨fun z => ?_, fun z => ?_⟩
      · rw [eq, ep, e3, p1 (by omega)]
        omega
      · rw [eq, ep, e3, p2 (by omega)]
def zse1 (h : zH) (s : zS) (v c w d : Int) : zH := zsi (zsr h 29 v.toNat c.toNat (zrf 0 w)) 12 0 15 (zE (s 19 0 + d))
noncomputable def zse2 (h : zH) (s : zS) (v c a w d : Int) : zH := zsi (zse1 h s v c w d) 0 a.toNat 10 (zE (zus s a + d))
noncomputable def zse3 (h : zH) (s : zS) (v c a w d : Int) : zH := zsi (zse2 h s v c a w d) 21 a.toNat (zrgf c).toNat (zE (zss s a (zrgf c) + d))
def zseS (s : zS) (v c w d : Int) : zS := zup (zup s 18 (200 * v + c) w) 19 0 (s 19 0 + d)
theorem zseS_18 {s : zS} {v c w d x : Int} : zseS s v c w d 18 x = if x = 200 * v + c then w else s 18 x := by
  show zup s 18 (200 * v + c) w 18 x = _
  by_cases e : x = 200 * v + c
  · rw [e, zup_s, if_pos rfl]
  · rw [zup_a e, if_neg e]
theorem zseS_u {s : zS} {v c a o w d : Int} (v0 : 0 ≤ v) (v1 : v < 4) (c0 : 0 ≤ c) (c1 : c < 200) (ho : s 18 (200 * v + c) = o) (hd : (o = -1 ∧ w = a ∧ d = 1) ∨ (o = a ∧ w = -1 ∧ d = -1)) {u : Int} (u0 : 0 ≤ u) : (zus (zseS s v c w d) u = if u = a then zus s u + d else zus s u) ∧ ∀ g, zss (zseS s v c w d) u g = if u = a ∧ g = zrgf c then zss s u g + d else zss s u g := by
  have x0 : 0 ≤ 200 * v + c := by omega
  have x1 : 200 * v + c < ((800 : Nat) : Int) := by omega
  have xr : (200 * v + c) % 200 = c := by omega
  have k1 := (zcnt_c (P := fun k => s 18 k = u) (Q := fun k => zseS s v c w d 18 k = u) x0 800 (fun i _ _ e => by rw [zseS_18, if_neg e])).1 x1
  have k2 : ∀ g, zss (zseS s v c w d) u g = zss s u g + zcn1 (zseS s v c w d 18 (200 * v + c) = u ∧ zrg ((200 * v + c) % 200) g) - zcn1 (s 18 (200 * v + c) = u ∧ zrg ((200 * v + c) % 200) g) := fun g => (zcnt_c (P := fun k => s 18 k = u ∧ zrg (k % 200) g) (Q := fun k => zseS s v c w d 18 k = u ∧ zrg (k % 200) g) x0 800 (fun i _ _ e => by rw [zseS_18, if_neg e])).1 x1
  have e1 : zus (zseS s v c w d) u = zus s u + zcn1 (zseS s v c w d 18 (200 * v + c) = u) - zcn1 (s 18 (200 * v + c) = u) := by
    have f1 : zus (zseS s v c w d) u = zcnt (fun k => s 12 k = u) 12 + (zcnt (fun k => s 13 k = u) 12 + zcnt (fun k => zseS s v c w d 18 k = u) 800) := rfl
    have f2 : zus s u = zcnt (fun k => s 12 k = u) 12 + (zcnt (fun k => s 13 k = u) 12 + zcnt (fun k => s 18 k = u) 800) := rfl
    rw [f1, f2, k1]
    try dsimp only
    omega
  have e18 : zseS s v c w d 18 (200 * v + c) = w := by rw [zseS_18, if_pos rfl]
  rw [e18, ho] at e1
  simp only [e18, ho, xr] at k2
  refine ⟨?_, fun g => ?_⟩
  · by_cases e : u = a
    · rw [if_pos e, e1]
      rcases hd with ⟨h1, h2, h3⟩ | ⟨h1, h2, h3⟩
      · rw [zcn1_t (by omega : w = u), zcn1_f (by omega : ¬ o = u)]; omega
      · rw [zcn1_f (by omega : ¬ w = u), zcn1_t (by omega : o = u)]; omega
    · rw [if_neg e, e1, zcn1_f (by omega : ¬ w = u), zcn1_f (by omega : ¬ o = u)]; omega
  · rw [k2 g]
    by_cases e : u = a ∧ g = zrgf c
    · have e3 : zrg c g := zrgf_e.mpr e.2
      rw [if_pos e]
      rcases hd with ⟨h1, h2, h3⟩ | ⟨h1, h2, h3⟩
      · rw [zcn1_t ⟨(by omega : w = u), e3⟩, zcn1_f fun z => (by omega : ¬ o = u) z.1]; omega
      · rw [zcn1_f fun z => (by omega : ¬ w = u) z.1, zcn1_t ⟨(by omega : o = u), e3⟩]; omega
    · have e3 : ∀ y : Int, (y = w ∨ y = o) → ¬ (y = u ∧ zrg c g) := fun y hy z => by
        have e4 : ¬ g = zrgf c ∨ ¬ u = a := (Classical.em (u = a)).elim (fun p => Or.inl fun q => e ⟨p, q⟩) Or.inr
        rcases e4 with e4 | e4
        · exact e4 (zrgf_e.mp z.2)
        · have := z.1; omega
      rw [if_neg e, zcn1_f (e3 w (Or.inl rfl)), zcn1_f (e3 o (Or.inr rfl))]; omega
theorem zw_ses {h : zH} {s : zS} {v c a o w d : Int} (hC : zCl h s) (v0 : 0 ≤ v) (v1 : v < 4) (c0 : 0 ≤ c) (c1 : c < 200) (a0 : 0 ≤ a) (a1 : a < s 2 0) (ho : s 18 (200 * v + c) = o) (hd : (o = -1 ∧ w = a ∧ d = 1) ∨ (o = a ∧ w = -1 ∧ d = -1)) : zCl (zse3 h s v c a w d) (zseS s v c w d) := by
  obtain ⟨C1, C2, C3, C4, C5, C6, C7, C8, C9, C10, C11, C12, C13, C14⟩ := hC
  obtain ⟨b1, b2, b3, b4, b5, b6, b7⟩ := C2
  refine ⟨C1, ?_, ⟨C3.1, fun u u0 u1 => ?_⟩, C4, C5, C6, C7, C8, ⟨C9.1, fun u u0 u1 => ?_⟩, C10, C11, C12, zCM_w C13 ((((zKp_r (by decide)).tr (zKp_i (by decide))).tr (zKp_i (by decide))).tr (zKp_i (by decide))) rfl rfl rfl rfl, C14⟩
  · have hz : ∀ j, j ≠ 15 → zi (zse3 h s v c a w d) 12 0 j = zi h 12 0 j := fun j hj => by
      show zi (zse1 h s v c w d) 12 0 j = _
      exact zi_j hj
    refine ⟨(hz 11 (by decide)).trans b1, (hz 13 (by decide)).trans b2, (hz 14 (by decide)).trans b3, ?_, (hz 16 (by decide)).trans b5, (hz 17 (by decide)).trans b6, fun z => (hz 12 (by decide)).trans (b7 z)⟩
    show zi (zse1 h s v c w d) 12 0 15 = zE (zup (zup s 18 (200 * v + c) w) 19 0 (s 19 0 + d) 19 0)
    rw [zup_s]
    exact zi_s
  · obtain ⟨p0, p1, p2, p3, p4, p5, p6, p7, p8, p9, p10, p11, p12, p13, p14⟩ := C3.2 u u0 u1
    have hz : ∀ j, j ≠ 10 → zi (zse3 h s v c a w d) 0 u.toNat j = zi h 0 u.toNat j := fun j hj => by
      show zi (zse2 h s v c a w d) 0 u.toNat j = _
      exact zi_j hj
    obtain ⟨q1, q2⟩ := zseS_u v0 v1 c0 c1 ho hd u0
    refine ⟨p0, (hz 0 (by decide)).trans p1, (hz 1 (by decide)).trans p2, (hz 2 (by decide)).trans p3, (hz 3 (by decide)).trans p4, (hz 4 (by decide)).trans p5, (hz 5 (by decide)).trans p6, (hz 6 (by decide)).trans p7, (hz 7 (by decide)).trans p8, (hz 8 (by decide)).trans p9, (hz 9 (by decide)).trans p10, ?_, p12, p13, fun g g0 g1 => ?_⟩
    · show zi (zse2 h s v c a w d) 0 u.toNat 10 = _
      rw [q1]
      by_cases e : u = a
      · subst e
        rw [if_pos rfl]
        exact zi_s
      · rw [if_neg e]
        exact (zi_i (by omega)).trans p11
    · rw [q2 g]
      show zi (zsi (zse2 h s v c a w d) 21 a.toNat (zrgf c).toNat (zE (zss s a (zrgf c) + d))) 21 u.toNat g.toNat = _
      have hr := zrgf_r c
      by_cases e : u = a
      · subst e
        by_cases e2 : g = zrgf c
        · subst e2
          rw [if_pos ⟨rfl, rfl⟩]
          exact zi_s
        · rw [if_neg fun z => e2 z.2]
          exact (zi_j (by omega)).trans (p14 g g0 g1)
      · rw [if_neg fun z => e z.1]
        exact (zi_i (by omega)).trans (p14 g g0 g1)
  · obtain ⟨p0, p1, p2, p3, p4, p5, p6, p7, p8, p9, p10, p11, p12, p13, p14⟩ := C9.2 u u0 u1
    refine ⟨p0, p1, p2, p3, p4, p5, p6, p7, p8, fun k k0 k1 => ?_, p10, p11, p12, p13, p14⟩
    rw [zseS_18]
    show zr (zsr h 29 v.toNat c.toNat (zrf 0 w)) 29 u.toNat k.toNat = _
    by_cases e : u = v
    · subst e
      by_cases e2 : k = c
      · subst e2
        rw [if_pos rfl]
        exact zr_s
      · rw [if_neg (by omega)]
        exact (zr_j (by omega)).trans (p9 k k0 k1)
    · rw [if_neg (by omega)]
      exact (zr_i (by omega)).trans (p9 k k0 k1)
theorem zse_k {h : zH} {s : zS} {v c a w d : Int} : zKp (fun k => ¬ zpc1 k) h (zse3 h s v c a w d) :=
  (((zKp_r (fun z => z (by unfold zpc1; decide))).tr (zKp_i (fun z => z (by unfold zpc1; decide)))).tr (zKp_i (fun z => z (by unfold zpc1; decide)))).tr (zKp_i (fun z => z (by unfold zpc1; decide)))
theorem zseS_W {s : zS} {v c a o w d : Int} (hW : zWf s) (v0 : 0 ≤ v) (v1 : v < 4) (c0 : 0 ≤ c) (c1 : c < 200) (a0 : 0 ≤ a) (a1 : a < s 2 0) (a2 : s 3 a = v) (ho : s 18 (200 * v + c) = o) (hd : (o = -1 ∧ w = a ∧ d = 1 ∧ s 19 0 < 40) ∨ (o = a ∧ w = -1 ∧ d = -1)) : zWf (zseS s v c w d) := by
  obtain ⟨wA, wK, wC, wD, wP, wR, wZ, wT, wG, wE, wM, wX⟩ := hW
  have hq := wX.2.2.2.2.2.2.2.2
  have x0 : 0 ≤ 200 * v + c := by omega
  have x1 : 200 * v + c < ((800 : Nat) : Int) := by omega
  have k1 := (zcnt_c (P := fun k => s 18 k ≠ -1) (Q := fun k => zseS s v c w d 18 k ≠ -1) x0 800 (fun i _ _ e => by rw [zseS_18, if_neg e])).1 x1
  have e19 : zseS s v c w d 19 0 = s 19 0 + d := zup_s
  have e18 : zseS s v c w d 18 (200 * v + c) = w := by rw [zseS_18, if_pos rfl]
  have n0 := zcnt_r (fun k => zseS s v c w d 18 k ≠ -1) 800
  have k2 : s 19 0 + d = zcnt (fun k => zseS s v c w d 18 k ≠ -1) 800 := by
    rw [k1, hq]
    try dsimp only
    rw [e18, ho]
    rcases hd with ⟨h1, h2, h3, h4⟩ | ⟨h1, h2, h3⟩
    · rw [zcn1_t (by omega : w ≠ -1), zcn1_f (by omega : ¬ o ≠ -1)]; omega
    · rw [zcn1_f (by omega : ¬ w ≠ -1), zcn1_t (by omega : o ≠ -1)]; omega
  refine ⟨wA, wK, ⟨?_, fun u u0 u1 => ?_⟩, wD, wP, wR, wZ, wT, wG, wE, wM, wX.1, wX.2.1, wX.2.2.1, wX.2.2.2.1, wX.2.2.2.2.1, wX.2.2.2.2.2.1, wX.2.2.2.2.2.2.1, wX.2.2.2.2.2.2.2.1, ?_⟩
  · rw [e19]
    have := wC.1
    omega
  · show -1 ≤ zseS s v c w d 18 u ∧ zseS s v c w d 18 u < s 2 0 ∧ (zseS s v c w d 18 u ≠ -1 → s 3 (zseS s v c w d 18 u) = u / 200)
    rw [zseS_18]
    by_cases e : u = 200 * v + c
    · rw [if_pos e]
      rcases hd with ⟨h1, h2, h3, h4⟩ | ⟨h1, h2, h3⟩
      · subst h2
        refine ⟨by omega, a1, fun _ => ?_⟩
        rw [a2]; omega
      · subst h2
        exact ⟨by omega, by omega, fun z => absurd rfl z⟩
    · rw [if_neg e]
      exact wC.2 u u0 u1
  · rw [e19]
    exact k2
theorem zsnf_v {s : zS} (hK : zWk s) (hC : zWc s) {v c : Int} (v1 : 0 ≤ v) (v2 : v < 4) (c1 : 0 ≤ c) (c2 : c < 200) (e : zsnf s v c ≠ -1) : s 3 (zsnf s v c) = v := by
  have hr := zrgf_r c
  obtain ⟨k1, k2, k3, k4, k5, k6⟩ := hK (3 * v + zrgf c) (by omega) (by omega)
  obtain ⟨q1, q2, q3⟩ := hC.2 (200 * v + c) (by omega) (by omega)
  unfold zsnf at e ⊢
  by_cases e1 : s 18 (200 * v + c) = -1
  · rw [if_pos e1] at e ⊢
    by_cases e2 : (37 * c + 11 * v) % 100 < s 14 (3 * v + zrgf c)
    · rw [if_pos e2] at e ⊢
      rw [k6 e]; omega
    · rw [if_neg e2] at e ⊢
      rw [k5 e]; omega
  · rw [if_neg e1] at e ⊢
    rw [q3 e]; omega
theorem zob_f {α : Type} {f : Nat → Nat → Option α} {k ci : Nat} {a : Int} (hk : (ztg k == 0 && zkc k == ci) = true) (h : 0 ≤ a) : zob ci (zrf k a) f = f k a.toNat := by
  rw [zrf_s h]
  exact zob_s hk
