set_option maxRecDepth 16384
/-! measure: a sample takes one more. -/
theorem zshr {m i : Int} (m0 : 0 ≤ m) (m1 : m < 2147483648) (i0 : 0 ≤ i) (i1 : i ≤ 16) : (zE m >>> (zE i &&& 31)) = zE ((m.toNat / 2 ^ i.toNat : Nat) : Int) := by
  have K : ∀ k, k < 17 → ((Int32.ofInt ((k : Nat) : Int) &&& 31).toBitVec.smod 32).toNat = k := by decide +kernel
  have e := pk_shrN (n := m.toNat) (by omega) (zE i &&& 31) i.toNat (by
    have := K i.toNat (by omega)
    rw [Int.toNat_of_nonneg i0] at this
    exact this)
  rw [zE_nI, zE_nI, Int.toNat_of_nonneg m0] at e
  exact e
theorem zc19_2 {h : zH} {k : zq → Int32 → Int32 → zH → zRs Unit} {x0 : zq} {x1 : Int32} {m : Int} (m0 : 0 ≤ m) (m1 : m ≤ 60000) : zm19_2 k zN0 x0 x1 (zE m) (zE 0) h = k x0 x1 (zE (zbk m)) h := by
  refine zloop0 (W := fun n i (_ : Unit) => zm19_2 k n x0 x1 (zE m) (zE i) h) (N := 16) (fun i _ => zbk m = i + zbk ((m.toNat / 2 ^ i.toNat : Nat) : Int)) (fun r => r = k x0 x1 (zE (zbk m)) h) () ?_ (by omega) (by omega) ?_ ?_
  · show zbk m = 0 + zbk ((m.toNat / 2 ^ (0 : Int).toNat : Nat) : Int)
    rw [show (0 : Int).toNat = 0 from rfl, Nat.pow_zero, Nat.div_one, Int.toNat_of_nonneg m0, Int.zero_add]
  · intro n _ hb
    have e : m.toNat / 2 ^ (16 : Int).toNat = 0 := Nat.div_eq_of_lt (by show m.toNat < 65536; omega)
    have hb : zbk m = 16 + zbk ((m.toNat / 2 ^ (16 : Int).toNat : Nat) : Int) := hb
    have z0 : zbk ((0 : Nat) : Int) = 0 := zbk_0 (by decide)
    rw [e, z0, Int.add_zero] at hb
    show zm19_2 k (n + 1) x0 x1 (zE m) (zE 16) h = k x0 x1 (zE (zbk m)) h
    rw [hb, zm19_2, zE_16, if_pos (Int32.le_refl _)]
  · intro n i _ i0 i1 hb
    have n3 : ¬ (16 : Int32) ≤ zE i := by rw [zE_16, zE_le (by omega) (by omega) (by omega) (by omega)]; omega
    have sh := zshr m0 (by omega) i0 (by omega : i ≤ 16)
    have hb : zbk m = i + zbk ((m.toNat / 2 ^ i.toNat : Nat) : Int) := hb
    have e : m.toNat / 2 ^ (i + 1).toNat = m.toNat / 2 ^ i.toNat / 2 := by
      rw [show (i + 1).toNat = i.toNat + 1 by omega, Nat.pow_succ, Nat.div_div_eq_div_mul]
    have hq : m.toNat / 2 ^ i.toNat ≤ m.toNat := Nat.div_le_self _ _
    obtain ⟨q, hqq⟩ : ∃ q, q = m.toNat / 2 ^ i.toNat := ⟨_, rfl⟩
    rw [← hqq] at sh hb e hq
    by_cases c : q = 0
    · refine Or.inl ?_
      show zm19_2 k (n + 1) x0 x1 (zE m) (zE i) h = k x0 x1 (zE (zbk m)) h
      rw [c] at sh hb
      have z0 : zbk ((0 : Nat) : Int) = 0 := zbk_0 (by decide)
      rw [z0, Int.add_zero] at hb
      rw [zm19_2, if_neg n3, sh, if_pos (show zE ((0 : Nat) : Int) = (0 : Int32) from zE_0.symm), hb]
    · refine Or.inr ⟨(), ?_, ?_⟩
      · show zbk m = (i + 1) + zbk ((m.toNat / 2 ^ (i + 1).toNat : Nat) : Int)
        have s := zbk_s (m := (q : Int)) (by omega)
        rw [e, hb, s, show ((q / 2 : Nat) : Int) = (q : Int) / 2 by omega]
        omega
      · show zm19_2 k (n + 1) x0 x1 (zE m) (zE i) h = zm19_2 k n x0 x1 (zE m) (zE (i + 1)) h
        rw [zm19_2, if_neg n3, sh, if_neg (by rw [zE_0, zE_inj (by omega) (by omega) (by omega) (by omega)]; omega), zE_1, zE_add, zlet_s]
theorem zi_ne {h : zH} {k i j k' i' j' : Nat} {v : Int32} (e : ¬ (k' = k ∧ i' = i ∧ j' = j)) : zi (zsi h k i j v) k' i' j' = zi h k' i' j' := if_neg e
def zCM1 (h : zH) (s : zS) : Prop := ∃ cd : Int → Nat × Nat, (∀ w w' : Int, 0 ≤ w → w < 24 → 0 ≤ w' → w' < 24 → cd w = cd w' → w = w') ∧ ∀ w, 0 ≤ w → w < 24 → zCMw h s cd w
def zadS (s : zS) (w b m : Int) : zS := zup (zup (zup s 48 (600 * w + s 47 w) b) 49 (600 * w + s 47 w) m) 47 w (s 47 w + 1)
theorem zad_x {s : zS} {w b m u x : Int} (hn : 0 ≤ s 47 w ∧ s 47 w < 600) (x0 : 0 ≤ x) (x1 : x < 600) (e : u ≠ w ∨ x ≠ s 47 w) : zadS s w b m 48 (600 * u + x) = s 48 (600 * u + x) ∧ zadS s w b m 49 (600 * u + x) = s 49 (600 * u + x) := by
  have ne : 600 * u + x ≠ 600 * w + s 47 w := by omega
  exact ⟨(zup_j (by decide)).trans ((zup_j (by decide)).trans (zup_a ne)), (zup_j (by decide)).trans ((zup_a ne).trans (zup_j (by decide)))⟩
theorem zad_n {s : zS} {w b m : Int} : zadS s w b m 48 (600 * w + s 47 w) = b ∧ zadS s w b m 49 (600 * w + s 47 w) = m := ⟨(zup_j (by decide)).trans ((zup_j (by decide)).trans zup_s), (zup_j (by decide)).trans zup_s⟩
theorem zad_47 {s : zS} {w b m u : Int} : zadS s w b m 47 u = if u = w then s 47 w + 1 else s 47 u := by
  unfold zadS
  rw [zif_u]
  rfl
theorem zad_W {s : zS} {w b m : Int} (hM : zWm s) (hn : s 46 0 < 600) (w0 : 0 ≤ w) (w1 : w < 24) (hb : b = 0 ∨ b = 1) (m0 : 0 ≤ m) (m1 : m ≤ 60000) : zWm (zadS (zup s 46 0 (s 46 0 + 1)) w b m) := by
  have h1 := hM.1
  have e46 : zadS (zup s 46 0 (s 46 0 + 1)) w b m 46 0 = s 46 0 + 1 := by
    show zup s 46 0 (s 46 0 + 1) 46 0 = _
    exact zup_s
  have e47 : ∀ u, zadS (zup s 46 0 (s 46 0 + 1)) w b m 47 u = if u = w then s 47 w + 1 else s 47 u := fun u => zad_47
  refine ⟨by omega, fun u u0 u1 => ?_⟩
  obtain ⟨a1, a2⟩ := hM.2 u u0 u1
  obtain ⟨c1, c2⟩ := hM.2 w w0 w1
  have hx := fun x => zad_x (s := zup s 46 0 (s 46 0 + 1)) (w := w) (b := b) (m := m) (u := u) (x := x) (show 0 ≤ s 47 w ∧ s 47 w < 600 by omega)
  obtain ⟨n1, n2⟩ := zad_n (s := zup s 46 0 (s 46 0 + 1)) (w := w) (b := b) (m := m)
  have n1 : zadS (zup s 46 0 (s 46 0 + 1)) w b m 48 (600 * w + s 47 w) = b := n1
  have n2 : zadS (zup s 46 0 (s 46 0 + 1)) w b m 49 (600 * w + s 47 w) = m := n2
  have hx : ∀ x, 0 ≤ x → x < 600 → (u ≠ w ∨ x ≠ s 47 w) → zadS (zup s 46 0 (s 46 0 + 1)) w b m 48 (600 * u + x) = s 48 (600 * u + x) ∧ zadS (zup s 46 0 (s 46 0 + 1)) w b m 49 (600 * u + x) = s 49 (600 * u + x) := hx
  rw [e46, e47]
  by_cases c : u = w
  · rw [if_pos c]
    refine ⟨by omega, fun x x0 x1 => ?_⟩
    by_cases d : x = s 47 w
    · rw [c, d, n1, n2]
      omega
    · obtain ⟨k1, k2⟩ := hx x x0 (by omega) (Or.inr d)
      rw [k1, k2]
      exact a2 x x0 (by rw [c]; omega)
  · rw [if_neg c]
    refine ⟨by omega, fun x x0 x1 => ?_⟩
    obtain ⟨k1, k2⟩ := hx x x0 (by omega) (Or.inl c)
    rw [k1, k2]
    exact a2 x x0 x1
/-- room for one more -/
theorem zc19_11 {h : zH} {s : zS} {w : Int} {x1 x3 : Int32} (hC : zCM1 h s) (w0 : 0 ≤ w) (w1 : w < 24) (hn : 0 ≤ s 47 w ∧ s 47 w < 600) : ∃ h1, zm19_11 (some (zsk w, (w / 2).toNat)) x1 x3 h = zm19_26 (some (zsk w, (w / 2).toNat)) x1 x3 h1 ∧ (∃ cd : Int → Nat × Nat, (∀ w w' : Int, 0 ≤ w → w < 24 → 0 ≤ w' → w' < 24 → cd w = cd w' → w = w') ∧ (∀ w, 0 ≤ w → w < 24 → zCMw h1 s cd w) ∧ s 47 w < (zln h1 (cd w).1 (cd w).2 : Int)) ∧ zKp (fun k => k ≠ 7 ∧ k ≠ 8 ∧ k ≠ 30 ∧ k ≠ 31 ∧ k ≠ 32) h h1 ∧ zd h1 10 = zd h 10 ∧ zce h1 ≤ zce h + 1 ∧ zso h1 ≤ zso h + 2000 := by
  obtain ⟨cd, m1, m2⟩ := hC
  obtain ⟨k1, k2, k3, k4, k5, k6, k7, k8, k9⟩ := m2 w w0 w1
  have hk : (ztg (cd w).1 == 1 || ztg (cd w).1 == 10) = true := by rcases k1.1 with z | z <;> rw [z] <;> rfl
  have hk1 : (ztg (cd w).1 == 1) = true := by rcases k1.1 with z | z <;> rw [z] <;> rfl
  have eal : ∀ f : Nat → Nat → zRs Unit, zal (zr h (zsk w) (w / 2).toNat 0) f = f (cd w).1 (cd w).2 := fun f => by
    rw [k2]
    exact if_pos hk
  have enn : ∀ f : Nat → Nat → zRs Unit, znn (zr h (zsk w) (w / 2).toNat 0) f = f (cd w).1 (cd w).2 := fun f => by
    rw [k2]
    rfl
  have hz : zsk w = 7 ∨ zsk w = 8 := by unfold zsk; split <;> omega
  by_cases c : s 47 w < (zln h (cd w).1 (cd w).2 : Int)
  · refine ⟨h, ?_, ⟨cd, m1, m2, c⟩, zKp.rf, rfl, by omega, by omega⟩
    rw [zm19_11, zo_7g, eal, k5, zE_nI, if_pos (by rw [zE_lt (by omega) (by omega) (by omega) (by omega)]; exact c)]
  · have hN : (zln h (cd w).1 (cd w).2 : Int) = s 47 w := by omega
    have hN' : zln h (cd w).1 (cd w).2 = (s 47 w).toNat := by omega
    obtain ⟨g, hg⟩ : ∃ g : Nat → Int32, g = fun j => if j < zln h (cd w).1 (cd w).2 then zi h (cd w).1 (cd w).2 j else 0 := ⟨_, rfl⟩
    obtain ⟨H, hH⟩ : ∃ H, H = zsr (znwi h 32 (s 47 w * 2).toNat (s 47 w * 2).toNat g) (zsk w) (w / 2).toNat 0 (some (32, zct h 32)) := ⟨_, rfl⟩
    have tn : (zE (s 47 w * 2)).toNatClampNeg = (s 47 w * 2).toNat := by
      show (zE (s 47 w * 2)).toInt.toNat = _
      rw [zE_to (by omega) (by omega)]
    have Hct : ∀ k, zct H k = if k = 32 then zct h 32 + 1 else zct h k := fun k => by
      rw [hH]
      show z1 h.1 32 (h.1 32 + 1) k = _
      unfold z1
      rfl
    have Hln : ∀ k i, zln H k i = if k = 32 ∧ i = zct h 32 then (s 47 w * 2).toNat else zln h k i := fun k i => by
      rw [hH]
      rfl
    have Hi : ∀ k i j, zi H k i j = if k = 32 ∧ i = zct h 32 then g j else zi h k i j := fun k i j => by
      rw [hH]
      rfl
    have Hr : ∀ k i j, zr H k i j = if k = zsk w ∧ i = (w / 2).toNat ∧ j = 0 then some (32, zct h 32) else if k = 32 ∧ i = zct h 32 then none else zr h k i j := fun k i j => by
      rw [hH]
      rfl
    obtain ⟨cd', hcd'⟩ : ∃ c : Int → Nat × Nat, ∀ u, c u = if u = w then (32, zct h 32) else cd u := ⟨_, fun _ => rfl⟩
    refine ⟨H, ?_, ⟨cd', ?_, ?_, ?_⟩, ?_, ?_, ?_, ?_⟩
    · have n1 : ¬ zE (s 47 w) < zE (zln h (cd w).1 (cd w).2) := by rw [zE_lt (by omega) (by omega) (by omega) (by omega)]; exact c
      have n2 : ¬ (zE (s 47 w * 2) < 0 ∨ 100000 < (s 47 w * 2).toNat ∨ (s 47 w * 2).toNat ≤ zln h (cd w).1 (cd w).2) := by
        rw [zE_0, zE_lt (by omega) (by omega) (by omega) (by omega)]
        omega
      rw [zm19_11, zo_7g, eal, k5, zE_nI, if_neg n1, enn, zif_s hk1, zE_2, zE_mul, tn, if_neg n2, zlet_s, zlet_s]
      subst hg
      subst hH
      rfl
    · intro u u' u0 u1 v0 v1 e
      rw [hcd', hcd'] at e
      by_cases c1 : u = w
      · by_cases c2 : u' = w
        · rw [c1, c2]
        · rw [if_pos c1, if_neg c2] at e
          obtain ⟨y1, -⟩ := m2 u' v0 v1
          rw [← e] at y1
          exact absurd y1.2 (Nat.lt_irrefl _)
      · by_cases c2 : u' = w
        · rw [if_neg c1, if_pos c2] at e
          obtain ⟨y1, -⟩ := m2 u u0 u1
          rw [e] at y1
          exact absurd y1.2 (Nat.lt_irrefl _)
        · rw [if_neg c1, if_neg c2] at e
          exact m1 u u' u0 u1 v0 v1 e
    · intro u u0 u1
      obtain ⟨y1, y2, y3, y4, y5, y6, y7, y8, y9⟩ := m2 u u0 u1
      have hu : zsk u = 7 ∨ zsk u = 8 := by unfold zsk; split <;> omega
      have ni : ∀ j, zi H (zsk u) (u / 2).toNat j = zi h (zsk u) (u / 2).toNat j := fun j => by rw [Hi, if_neg (by omega)]
      have ns : ∀ j, zi H 31 (zbi u) j = zi h 31 (zbi u) j := fun j => by rw [Hi, if_neg (by omega)]
      have nr : zr H (zsk u) (u / 2).toNat 3 = zr h (zsk u) (u / 2).toNat 3 := by rw [Hr, if_neg (by omega), if_neg (by omega)]
      have nl : zln H 31 (zbi u) = zln h 31 (zbi u) := by rw [Hln, if_neg (by omega)]
      unfold zCMw
      rw [ni, ni, nr, nl, hcd']
      by_cases c1 : u = w
      · subst c1
        rw [if_pos rfl]
        refine ⟨⟨Or.inr rfl, ?_⟩, ?_, ?_, ?_, y5, y6, y7, y8, fun b b0 b1 => (ns _).trans (y9 b b0 b1)⟩
        · show zct h 32 < zct H 32
          rw [Hct, if_pos rfl]
          exact Nat.lt_succ_self _
        · rw [Hr, if_pos ⟨rfl, rfl, rfl⟩]
        · have e : zln H 32 (zct h 32) = (s 47 u * 2).toNat := by rw [Hln, if_pos ⟨rfl, rfl⟩]
          show s 47 u ≤ (zln H 32 (zct h 32) : Int) ∧ 8 ≤ zln H 32 (zct h 32) ∧ zln H 32 (zct h 32) ≤ 2048
          rw [e]
          omega
        · intro x x0 x1
          show zi H 32 (zct h 32) x.toNat = _
          rw [Hi, if_pos ⟨rfl, rfl⟩, hg]
          show (if x.toNat < zln h (cd u).1 (cd u).2 then zi h (cd u).1 (cd u).2 x.toNat else 0) = _
          rw [if_pos (by omega)]
          exact y4 x x0 x1
      · rw [if_neg c1]
        have nc : ¬ ((cd u).1 = 32 ∧ (cd u).2 = zct h 32) := fun z => by
          have := y1.2
          rw [z.1, z.2] at this
          exact Nat.lt_irrefl _ this
        have nz : ¬ (zsk u = zsk w ∧ (u / 2).toNat = (w / 2).toNat) := fun z => by
          have z1 := z.1
          unfold zsk at z1
          have z2 := z.2
          by_cases p : u % 2 = 1
          · by_cases q : w % 2 = 1
            · omega
            · rw [if_pos p, if_neg q] at z1; omega
          · by_cases q : w % 2 = 1
            · rw [if_neg p, if_pos q] at z1; omega
            · omega
        refine ⟨⟨y1.1, ?_⟩, ?_, ?_, ?_, y5, y6, y7, y8, fun b b0 b1 => (ns _).trans (y9 b b0 b1)⟩
        · rw [Hct]
          have := y1.2
          by_cases d : (cd u).1 = 32
          · rw [if_pos d]
            rw [d] at this
            omega
          · rw [if_neg d]
            exact this
        · rw [Hr, if_neg (fun z => nz ⟨z.1, z.2.1⟩), if_neg (by omega)]
          exact y2
        · rw [Hln, if_neg nc]
          exact y3
        · intro x x0 x1
          rw [Hi, if_neg nc]
          exact y4 x x0 x1
    · rw [hcd', if_pos rfl]
      have e : zln H 32 (zct h 32) = (s 47 w * 2).toNat := by rw [Hln, if_pos ⟨rfl, rfl⟩]
      show s 47 w < (zln H 32 (zct h 32) : Int)
      rw [e]
      omega
    · intro k hk
      have n32 : ¬ k = 32 := by omega
      refine ⟨by rw [Hct, if_neg n32], ?_, ?_, ?_, ?_, ?_⟩
      · funext i; rw [Hln, if_neg (fun z => n32 z.1)]
      · funext i j; rw [Hi, if_neg (fun z => n32 z.1)]
      · funext i j; rw [Hr, if_neg (by omega), if_neg (fun z => n32 z.1)]
      · rw [hH]
        funext i j
        exact if_neg (fun z => n32 z.1)
      · rw [hH]
        funext i j
        exact if_neg (fun z => n32 z.1)
    · rw [hH]
      rfl
    · rw [hH]
      exact Nat.le_refl _
    · rw [hH]
      show zso h + (s 47 w * 2).toNat ≤ _
      omega

