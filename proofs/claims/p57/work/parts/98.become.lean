set_option maxRecDepth 16384
/-! A spot becomes another: the class's objects. -/
/-- an artefact's uses, so many more -/
def zau (h : zH) (a : Int) (d : Int) : zH := (h.1, h.2.1, fun K i j => if K = 0 ∧ a ≠ -1 ∧ i = a.toNat ∧ j = 10 then h.2.2.1 K i j + zE d else h.2.2.1 K i j, h.2.2.2)
theorem zau_n {h : zH} {d : Int} : zau h (-1) d = h := by
  have e : (fun K i j => if K = 0 ∧ (-1 : Int) ≠ -1 ∧ i = (-1 : Int).toNat ∧ j = 10 then h.2.2.1 K i j + zE d else h.2.2.1 K i j) = h.2.2.1 := by
    funext K i j
    exact if_neg fun z => z.2.1 rfl
  show (h.1, h.2.1, (fun K i j => if K = 0 ∧ (-1 : Int) ≠ -1 ∧ i = (-1 : Int).toNat ∧ j = 10 then h.2.2.1 K i j + zE d else h.2.2.1 K i j), h.2.2.2) = h
  rw [e]
theorem zau_s {h : zH} {a d : Int} (h0 : 0 ≤ a) : zsi h 0 a.toNat 10 (zi h 0 a.toNat 10 + zE d) = zau h a d := by
  have e : zu h.2.2.1 0 a.toNat 10 (zi h 0 a.toNat 10 + zE d) = (fun K i j => if K = 0 ∧ a ≠ -1 ∧ i = a.toNat ∧ j = 10 then h.2.2.1 K i j + zE d else h.2.2.1 K i j) := by
    funext K i j
    unfold zu
    by_cases c : K = 0 ∧ i = a.toNat ∧ j = 10
    · obtain ⟨rfl, rfl, rfl⟩ := c
      rw [if_pos ⟨rfl, rfl, rfl⟩, if_pos ⟨rfl, by omega, rfl, rfl⟩]
      rfl
    · rw [if_neg c, if_neg fun z => c ⟨z.1, z.2.2⟩]
  show (h.1, h.2.1, zu h.2.2.1 0 a.toNat 10 (zi h 0 a.toNat 10 + zE d), h.2.2.2) = _
  rw [e]
  rfl
theorem zc30 {h : zH} {a d : Int} (h0 : -1 ≤ a) : zm30 (zrf 0 a) (zE d) h = some (.inl (), zau h a d) := by
  by_cases e : a = -1
  · subst e
    rw [zau_n]
    simp only [zm30, zrf_n, if_true]
  · have n1 : ¬ zrf 0 a = none := by rw [zrf_z h0]; exact e
    rw [zm30, if_neg n1, zob_f rfl (by omega), zlet_s, zau_s (by omega)]
theorem zau_10 {h : zH} {a d u : Int} (a0 : -1 ≤ a) (u0 : 0 ≤ u) : zi (zau h a d) 0 u.toNat 10 = zi h 0 u.toNat 10 + zE (if a = u then d else 0) := by
  show (if 0 = 0 ∧ a ≠ -1 ∧ u.toNat = a.toNat ∧ 10 = 10 then zi h 0 u.toNat 10 + zE d else zi h 0 u.toNat 10) = _
  by_cases e : a = u
  · rw [if_pos ⟨rfl, by omega, by omega, rfl⟩, if_pos e]
  · rw [if_neg (fun z => by omega), if_neg e, ← zE_0, Int32.add_zero]
theorem zau_j {h : zH} {a d : Int} {i j : Nat} (e : j ≠ 10) : zi (zau h a d) 0 i j = zi h 0 i j := if_neg fun z => e z.2.2.2
theorem zau_k {P : Nat → Prop} {h : zH} {a d : Int} (hp : ¬ P 0) : zKp P h (zau h a d) := fun k hk => by
  have e : k ≠ 0 := fun z => hp (z ▸ hk)
  refine ⟨rfl, rfl, ?_, rfl, rfl, rfl⟩
  funext i j
  exact if_neg fun z => e z.1
/-- a sample is empty -/
def zemI (K0 i0 B0 n : Nat) (h : zH) : zH := (h.1, h.2.1, fun K i j => if K = K0 ∧ i = i0 ∧ (j = 1 ∨ j = 2) then 0 else if K = 31 ∧ i = B0 ∧ j < n then 0 else h.2.2.1 K i j, h.2.2.2)
theorem zemI_k {P : Nat → Prop} {h : zH} {K0 i0 B0 n : Nat} (hp : ¬ P K0) (hp2 : ¬ P 31) : zKp P h (zemI K0 i0 B0 n h) := fun k hk => by
  have e : k ≠ K0 := fun z => hp (z ▸ hk)
  have e2 : k ≠ 31 := fun z => hp2 (z ▸ hk)
  refine ⟨rfl, rfl, ?_, rfl, rfl, rfl⟩
  funext i j
  exact (if_neg fun z => e z.1).trans (if_neg fun z => e2 z.1)
theorem zem_8 {h : zH} {K0 i0 B0 : Nat} (ho : ∀ f : Nat → Nat → zRs Unit, zob 7 (some (K0, i0)) f = f K0 i0) (hK : K0 ≠ 31) (h3 : zr h K0 i0 3 = some (31, B0)) (hl : zln h 31 B0 = 17) : zm18 (some (K0, i0)) h = some (.inl (), zemI K0 i0 B0 17 h) := by
  have e0 : zsi (zsi h K0 i0 1 (0 : Int32)) K0 i0 2 (0 : Int32) = zemI K0 i0 B0 0 h := by
    have e : zu (zu h.2.2.1 K0 i0 1 (0 : Int32)) K0 i0 2 (0 : Int32) = (fun K i j => if K = K0 ∧ i = i0 ∧ (j = 1 ∨ j = 2) then 0 else if K = 31 ∧ i = B0 ∧ j < 0 then 0 else h.2.2.1 K i j) := by
      funext K i j
      unfold zu
      by_cases c : K = K0 ∧ i = i0
      · obtain ⟨rfl, rfl⟩ := c
        by_cases c2 : j = 2
        · rw [if_pos ⟨rfl, rfl, c2⟩, if_pos ⟨rfl, rfl, Or.inr c2⟩]
        · rw [if_neg fun z => c2 z.2.2]
          by_cases c1 : j = 1
          · rw [if_pos ⟨rfl, rfl, c1⟩, if_pos ⟨rfl, rfl, Or.inl c1⟩]
          · rw [if_neg fun z => c1 z.2.2, if_neg (fun z => z.2.2.elim c1 c2), if_neg (fun z => by omega)]
      · rw [if_neg fun z => c ⟨z.1, z.2.1⟩, if_neg fun z => c ⟨z.1, z.2.1⟩, if_neg fun z => c ⟨z.1, z.2.1⟩, if_neg (fun z => by omega)]
    show (h.1, h.2.1, zu (zu h.2.2.1 K0 i0 1 (0 : Int32)) K0 i0 2 (0 : Int32), h.2.2.2) = _
    rw [e]
    rfl
  rw [zm18, ho, zlet_s, zlet_s, e0]
  rw [zE_0]
  refine zloop0 (W := fun n i (x : zH) => zm18_8 n (some (K0, i0)) (zE i) x) (N := 17) (fun i x => x = zemI K0 i0 B0 i.toNat h) (fun r => r = some (.inl (), zemI K0 i0 B0 17 h)) (zemI K0 i0 B0 0 h) rfl (by omega) (by omega) ?_ ?_
  · rintro n x rfl
    simp only [zm18_8, zE_17, Int32.le_refl, if_true]
    rfl
  · rintro n i x i1 i2 rfl
    have h17 : ¬ (17 : Int) ≤ i := by omega
    have e1 : zsi (zemI K0 i0 B0 i.toNat h) 31 B0 i.toNat (0 : Int32) = zemI K0 i0 B0 (i + 1).toNat h := by
      have e : zu (fun K a j => if K = K0 ∧ a = i0 ∧ (j = 1 ∨ j = 2) then 0 else if K = 31 ∧ a = B0 ∧ j < i.toNat then 0 else h.2.2.1 K a j) 31 B0 i.toNat (0 : Int32) = (fun K a j => if K = K0 ∧ a = i0 ∧ (j = 1 ∨ j = 2) then 0 else if K = 31 ∧ a = B0 ∧ j < (i + 1).toNat then 0 else h.2.2.1 K a j) := by
        funext K a j
        unfold zu
        dsimp only
        by_cases c : K = 31 ∧ a = B0
        · obtain ⟨rfl, rfl⟩ := c
          rw [if_neg (show ¬ (31 = K0 ∧ a = i0 ∧ (j = 1 ∨ j = 2)) from fun z => hK z.1.symm), if_neg (show ¬ (31 = K0 ∧ a = i0 ∧ (j = 1 ∨ j = 2)) from fun z => hK z.1.symm)]
          by_cases c2 : j = i.toNat
          · rw [if_pos ⟨rfl, rfl, c2⟩, if_pos ⟨rfl, rfl, by omega⟩]
          · rw [if_neg fun z => c2 z.2.2]
            by_cases c3 : j < i.toNat
            · rw [if_pos ⟨rfl, rfl, c3⟩, if_pos ⟨rfl, rfl, by omega⟩]
            · rw [if_neg fun z => c3 z.2.2, if_neg (fun z => by omega)]
        · rw [if_neg fun z => c ⟨z.1, z.2.1⟩, if_neg (show ¬ (K = 31 ∧ a = B0 ∧ j < i.toNat) from fun z => c ⟨z.1, z.2.1⟩), if_neg (show ¬ (K = 31 ∧ a = B0 ∧ j < (i + 1).toNat) from fun z => c ⟨z.1, z.2.1⟩)]
      show (h.1, h.2.1, zu (fun K a j => if K = K0 ∧ a = i0 ∧ (j = 1 ∨ j = 2) then 0 else if K = 31 ∧ a = B0 ∧ j < i.toNat then 0 else h.2.2.1 K a j) 31 B0 i.toNat (0 : Int32), h.2.2.2) = _
      rw [e]
      rfl
    refine Or.inr ⟨_, rfl, ?_⟩
    rw [zm18_8, if_neg (by rw [zE_17, zE_le (by omega) (by omega) (by omega) (by omega)]; exact h17), ho, zar_s (show zr (zemI K0 i0 B0 i.toNat h) K0 i0 3 = some (31, B0) from h3) rfl (show zln (zemI K0 i0 B0 i.toNat h) 31 B0 = 17 from hl) i1 (by omega) (by omega), zlet_s, e1, zlet_s, zE_1, zE_add]
/-- both samples of a spot are empty, its capital is 1 -/
def zemH (h : zH) (k : Int) : zH := zemI 8 k.toNat (2 * k + 1).toNat 17 (zemI 7 k.toNat (2 * k).toNat 17 (zsd h 10 k.toNat 4 4607182418800017408))
def zemS (s : zS) (k : Int) : zS := zup (zup s 47 (2 * k) 0) 47 (2 * k + 1) 0
theorem zemS_47 {s : zS} {k w : Int} : zemS s k 47 w = if w / 2 = k then 0 else s 47 w := by
  unfold zemS zup
  by_cases c : w = 2 * k + 1
  · rw [if_pos ⟨rfl, c⟩, if_pos (by omega)]
  · rw [if_neg fun z => c z.2]
    by_cases d : w = 2 * k
    · rw [if_pos ⟨rfl, d⟩, if_pos (by omega)]
    · rw [if_neg fun z => d z.2, if_neg (by omega)]
theorem zbi_e {w : Int} (w0 : 0 ≤ w) : zbi w = if w % 2 = 1 then (2 * (w / 2)).toNat else (2 * (w / 2) + 1).toNat := by
  unfold zbi
  by_cases c : w % 2 = 1
  · rw [if_pos c, if_pos c]; congr 1; omega
  · rw [if_neg c, if_neg c]; congr 1; omega
theorem zemH_z {h : zH} {k w : Int} {j : Nat} (k0 : 0 ≤ k) (w0 : 0 ≤ w) : (w / 2 = k → (j = 1 ∨ j = 2) → zi (zemH h k) (zsk w) (w / 2).toNat j = 0) ∧ (w / 2 ≠ k → zi (zemH h k) (zsk w) (w / 2).toNat j = zi h (zsk w) (w / 2).toNat j) ∧ (w / 2 = k → j < 17 → zi (zemH h k) 31 (zbi w) j = 0) ∧ (w / 2 ≠ k → zi (zemH h k) 31 (zbi w) j = zi h 31 (zbi w) j) := by
  have e : ∀ K i, zi (zemH h k) K i j = if K = 8 ∧ i = k.toNat ∧ (j = 1 ∨ j = 2) then 0 else if K = 31 ∧ i = (2 * k + 1).toNat ∧ j < 17 then 0 else if K = 7 ∧ i = k.toNat ∧ (j = 1 ∨ j = 2) then 0 else if K = 31 ∧ i = (2 * k).toNat ∧ j < 17 then 0 else zi h K i j := fun K i => rfl
  have hs : zsk w = 7 ∨ zsk w = 8 := by
    unfold zsk
    split
    · exact Or.inl rfl
    · exact Or.inr rfl
  refine ⟨fun c d => ?_, fun c => ?_, fun c d => ?_, fun c => ?_⟩
  · rw [e]
    rcases hs with z | z <;> rw [z]
    · rw [if_neg (fun z => by omega), if_neg (fun z => by omega), if_pos ⟨rfl, by omega, d⟩]
    · rw [if_pos ⟨rfl, by omega, d⟩]
  · rw [e]
    rw [if_neg (fun z => by omega), if_neg (fun z => by rcases hs with y | y <;> omega), if_neg (fun z => by omega), if_neg (fun z => by rcases hs with y | y <;> omega)]
  · rw [e, zbi_e w0]
    by_cases p : w % 2 = 1
    · rw [if_pos p, if_neg (fun z => by omega), if_neg (fun z => by omega), if_neg (fun z => by omega), if_pos ⟨rfl, by rw [c], d⟩]
    · rw [if_neg p, if_neg (fun z => by omega), if_pos ⟨rfl, by rw [c], d⟩]
  · rw [e, zbi_e w0]
    by_cases p : w % 2 = 1
    · rw [if_pos p, if_neg (fun z => by omega), if_neg (fun z => by omega), if_neg (fun z => by omega), if_neg (fun z => by omega)]
    · rw [if_neg p, if_neg (fun z => by omega), if_neg (fun z => by omega), if_neg (fun z => by omega), if_neg (fun z => by omega)]
theorem zemH_C {h : zH} {s : zS} {k : Int} (hC : zCl h s) (k0 : 0 ≤ k) (k1 : k < 12) : zCl (zemH h k) (zemS s k) := by
  obtain ⟨c1, c2, c3, c4, c5, c6, c7, c8, c9, c10, c11, c12, c13, c14⟩ := hC
  refine ⟨c1, c2, c3, c4, c5, c6, c7, c8, c9, c10, c11, c12, ?_, c14⟩
  obtain ⟨⟨cd, m1, m2⟩, m3⟩ := c13
  refine ⟨⟨cd, m1, fun w w0 w1 => ?_⟩, fun u u0 u1 => ?_⟩
  · obtain ⟨k1', k2, k3, k4, k5, k6, k7, k8, k9⟩ := m2 w w0 w1
    have hcd : ∀ i j, zi (zemH h k) (cd w).1 i j = zi h (cd w).1 i j := fun i j => by
      have e : zi (zemH h k) (cd w).1 i j = if (cd w).1 = 8 ∧ i = k.toNat ∧ (j = 1 ∨ j = 2) then 0 else if (cd w).1 = 31 ∧ i = (2 * k + 1).toNat ∧ j < 17 then 0 else if (cd w).1 = 7 ∧ i = k.toNat ∧ (j = 1 ∨ j = 2) then 0 else if (cd w).1 = 31 ∧ i = (2 * k).toNat ∧ j < 17 then 0 else zi h (cd w).1 i j := rfl
      rw [e, if_neg (fun z => by rcases k1'.1 with y | y <;> omega), if_neg (fun z => by rcases k1'.1 with y | y <;> omega), if_neg (fun z => by rcases k1'.1 with y | y <;> omega), if_neg (fun z => by rcases k1'.1 with y | y <;> omega)]
    have hz := fun j => zemH_z (h := h) (w := w) (j := j) k0 w0
    unfold zCMw
    rw [zemS_47]
    show _ ∧ _ ∧ _ ∧ (∀ x : Int, 0 ≤ x → x < _ → _ = zE (2 * zbk (s 49 (600 * w + x)) + s 48 (600 * w + x))) ∧ _ ∧ zi (zemH h k) (zsk w) (w / 2).toNat 2 = zE (zcnt (fun x => s 48 (600 * w + x) = 1) _) ∧ _ ∧ _ ∧ ∀ b : Int, 0 ≤ b → b < 17 → zi (zemH h k) 31 (zbi w) b.toNat = zE (zcnt (fun x => zbk (s 49 (600 * w + x)) = b) _)
    by_cases c : w / 2 = k
    · simp only [if_pos c]
      refine ⟨k1', k2, ⟨by omega, k3.2.1, k3.2.2⟩, fun x x0 x1 => by omega, ((hz 1).1 c (Or.inl rfl)).trans zE_0, ((hz 2).1 c (Or.inr rfl)).trans zE_0, k7, k8, fun b b0 b1 => ((hz b.toNat).2.2.1 c (by omega)).trans zE_0⟩
    · simp only [if_neg c]
      exact ⟨k1', k2, k3, fun x x0 x1 => (hcd _ _).trans (k4 x x0 x1), ((hz 1).2.1 c).trans k5, ((hz 2).2.1 c).trans k6, k7, k8, fun b b0 b1 => ((hz b.toNat).2.2.2 c).trans (k9 b b0 b1)⟩
  · have hq : ∀ n, zcpN (zemS s k) u n = zcpN s u n := fun n => by
      induction n with
      | zero => rfl
      | succ n ih =>
        show zcst _ (s 48 _) (s 48 _) = zcst _ (s 48 _) (s 48 _)
        rw [ih]
    have hd : zd (zemH h k) 10 u.toNat 4 = zd (zsd h 10 k.toNat 4 4607182418800017408) 10 u.toNat 4 := rfl
    rw [hd, hq]
    by_cases c : u = k
    · subst c
      have hp : zprs (zemS s u) u = 0 := by
        have h1 : zemS s u 47 (2 * u) = 0 := by rw [zemS_47, if_pos (by omega)]
        have h2 : zemS s u 47 (2 * u + 1) = 0 := by rw [zemS_47, if_pos (by omega)]
        unfold zprs
        rw [h1, h2]
        rfl
      rw [hp]
      exact zd_sd
    · have hp : zprs (zemS s k) u = zprs s u := by
        have h1 : zemS s k 47 (2 * u) = s 47 (2 * u) := by rw [zemS_47, if_neg (by omega)]
        have h2 : zemS s k 47 (2 * u + 1) = s 47 (2 * u + 1) := by rw [zemS_47, if_neg (by omega)]
        unfold zprs
        rw [h1, h2]
      rw [hp]
      exact (if_neg fun z => by omega).trans (m3 u u0 u1)
/-- the uses, and what is stable, the candidate, its share -/
def zsuH (h : zH) (a b st cd : Int) : zH := zau (zau (zau (zau h a (-1)) b (-1)) st 1) cd 1
def zstH' (h : zH) (k a b st cd sh : Int) : zH := zsi (zsr (zsr (zsuH h a b st cd) 10 k.toNat 0 (zrf 0 st)) 10 k.toNat 1 (zrf 0 cd)) 10 k.toNat 2 (zE sh)
def zstS' (s : zS) (k st cd sh : Int) : zS := zup (zup (zup s 12 k st) 13 k cd) 14 k sh
theorem zsuH_10 {h : zH} {a b st cd u : Int} (a0 : -1 ≤ a) (b0 : -1 ≤ b) (s0 : -1 ≤ st) (c0 : -1 ≤ cd) (u0 : 0 ≤ u) : zi (zsuH h a b st cd) 0 u.toNat 10 = zi h 0 u.toNat 10 + zE ((((if a = u then -1 else 0) + (if b = u then -1 else 0)) + (if st = u then 1 else 0)) + (if cd = u then 1 else 0)) := by
  unfold zsuH
  rw [zau_10 c0 u0, zau_10 s0 u0, zau_10 b0 u0, zau_10 a0 u0, Int32.add_assoc, Int32.add_assoc, Int32.add_assoc, zE_add, zE_add, zE_add, Int.add_assoc, Int.add_assoc]
theorem zstS'_u {s : zS} {k st cd sh : Int} (k0 : 0 ≤ k) (k1 : k < 12) (u : Int) : zus (zstS' s k st cd sh) u = zus s u + ((((if s 12 k = u then -1 else 0) + (if s 13 k = u then -1 else 0)) + (if st = u then 1 else 0)) + (if cd = u then 1 else 0)) := by
  have x1 : k < ((12 : Nat) : Int) := by omega
  have k2 := (zcnt_c (P := fun x => s 12 x = u) (Q := fun x => zup s 12 k st 12 x = u) k0 12 (fun i _ _ e => by rw [zup_a e])).1 x1
  have k3 := (zcnt_c (P := fun x => s 13 x = u) (Q := fun x => zup s 13 k cd 13 x = u) k0 12 (fun i _ _ e => by rw [zup_a e])).1 x1
  have f1 : zus (zstS' s k st cd sh) u = zcnt (fun x => zup s 12 k st 12 x = u) 12 + (zcnt (fun x => zup s 13 k cd 13 x = u) 12 + zcnt (fun x => s 18 x = u) 800) := rfl
  have f2 : zus s u = zcnt (fun x => s 12 x = u) 12 + (zcnt (fun x => s 13 x = u) 12 + zcnt (fun x => s 18 x = u) 800) := rfl
  have z : ∀ x : Int, zcn1 (x = u) = if x = u then 1 else 0 := fun x => by
    by_cases c : x = u
    · rw [zcn1_t c, if_pos c]
    · rw [zcn1_f c, if_neg c]
  try dsimp only at k2 k3
  rw [zup_s, z, z] at k2
  rw [zup_s, z, z] at k3
  rw [f1, f2, k2, k3]
  have q : ∀ x : Int, (if x = u then (-1 : Int) else 0) = - (if x = u then (1 : Int) else 0) := fun x => by
    split <;> rfl
  rw [q, q]
  omega
theorem zstH'_C {h : zH} {s : zS} {k st cd sh : Int} (hC : zCl h s) (k0 : 0 ≤ k) (k1 : k < 12) (a0 : -1 ≤ s 12 k) (b0 : -1 ≤ s 13 k) (s0 : -1 ≤ st) (c0 : -1 ≤ cd) : zCl (zstH' h k (s 12 k) (s 13 k) st cd sh) (zstS' s k st cd sh) := by
  obtain ⟨c1, c2, c3, c4, c5, c6, c7, c8, c9, c10, c11, c12, c13, c14⟩ := hC
  refine ⟨c1, c2, ⟨c3.1, fun u u0 u1 => ?_⟩, c4, c5, c6, c7, c8, c9, fun u u0 u1 => ?_, c11, c12, zCM_w c13 (((((((zau_k (by decide)).tr (zau_k (by decide))).tr (zau_k (by decide))).tr (zau_k (by decide))).tr (zKp_r (by decide))).tr (zKp_r (by decide))).tr (zKp_i (by decide))) rfl rfl rfl rfl, c14⟩
  · obtain ⟨p0, p1, p2, p3, p4, p5, p6, p7, p8, p9, p10, p11, p12, p13, p14⟩ := c3.2 u u0 u1
    have hz : ∀ j, j ≠ 10 → zi (zstH' h k (s 12 k) (s 13 k) st cd sh) 0 u.toNat j = zi h 0 u.toNat j := fun j hj => by
      show zi (zsuH h (s 12 k) (s 13 k) st cd) 0 u.toNat j = _
      exact (zau_j hj).trans ((zau_j hj).trans ((zau_j hj).trans (zau_j hj)))
    refine ⟨p0, (hz 0 (by decide)).trans p1, (hz 1 (by decide)).trans p2, (hz 2 (by decide)).trans p3, (hz 3 (by decide)).trans p4, (hz 4 (by decide)).trans p5, (hz 5 (by decide)).trans p6, (hz 6 (by decide)).trans p7, (hz 7 (by decide)).trans p8, (hz 8 (by decide)).trans p9, (hz 9 (by decide)).trans p10, ?_, p12, p13, p14⟩
    show zi (zsuH h (s 12 k) (s 13 k) st cd) 0 u.toNat 10 = _
    rw [zsuH_10 a0 b0 s0 c0 u0, zstS'_u k0 k1, p11, zE_add]
  · obtain ⟨p0, p1, p2, p3, p4, p5⟩ := c10 u u0 u1
    have e12 : zstS' s k st cd sh 12 u = if u = k then st else s 12 u := by
      show zup s 12 k st 12 u = _
      exact zif_u
    have e13 : zstS' s k st cd sh 13 u = if u = k then cd else s 13 u := by
      show zup s 13 k cd 13 u = _
      exact zif_u
    have e14 : zstS' s k st cd sh 14 u = if u = k then sh else s 14 u := by
      show zup s 14 k sh 14 u = _
      exact zif_u
    rw [e12, e13, e14]
    have hr : ∀ j, zr (zstH' h k (s 12 k) (s 13 k) st cd sh) 10 u.toNat j = zr (zsr (zsr h 10 k.toNat 0 (zrf 0 st)) 10 k.toNat 1 (zrf 0 cd)) 10 u.toNat j := fun j => rfl
    have hi : ∀ j, zi (zstH' h k (s 12 k) (s 13 k) st cd sh) 10 u.toNat j = zi (zsi h 10 k.toNat 2 (zE sh)) 10 u.toNat j := fun j => rfl
    simp only [hr, hi]
    by_cases e : u = k
    · subst e
      simp only [if_pos rfl]
      exact ⟨(zr_j (by decide)).trans zr_s, zr_s, zi_s, (zi_j (by decide)).trans p3, (zr_j (by decide)).trans ((zr_j (by decide)).trans p4), (zr_j (by decide)).trans ((zr_j (by decide)).trans p5)⟩
    · simp only [if_neg e]
      have en : u.toNat ≠ k.toNat := by omega
      exact ⟨(zr_i en).trans ((zr_i en).trans p0), (zr_i en).trans ((zr_i en).trans p1), (zi_i en).trans p2, (zi_i en).trans p3, (zr_i en).trans ((zr_i en).trans p4), (zr_i en).trans ((zr_i en).trans p5)⟩

