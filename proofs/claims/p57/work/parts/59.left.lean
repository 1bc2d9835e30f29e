set_option maxRecDepth 16384
/-! Capacity; the way out: both sides. -/
def zsum (f : Int → Int) : Nat → Int
  | 0 => 0
  | n + 1 => zsum f n + f n
def zpop (m : Nat) : Nat := ((List.range 8).filter fun k => m.testBit k).length
theorem zc292_d : ∀ m, m < 64 → ∀ x21 x23 x25 x27 x29 : Int32, x21 = (Int32.ofInt (m : Nat) - (((Int32.ofInt (m : Nat)).toUInt32 >>> ((1 : Int32).toUInt32 &&& Int32.toUInt32 31)).toInt32 &&& (1431655765 : Int32))) → x23 = ((x21 &&& (858993459 : Int32)) + (((x21.toUInt32 >>> ((2 : Int32).toUInt32 &&& Int32.toUInt32 31)).toInt32) &&& (858993459 : Int32))) → x25 = ((x23 + ((x23.toUInt32 >>> ((4 : Int32).toUInt32 &&& Int32.toUInt32 31)).toInt32)) &&& (252645135 : Int32)) →
    x27 = (x25 + ((x25.toUInt32 >>> ((8 : Int32).toUInt32 &&& Int32.toUInt32 31)).toInt32)) → x29 = (x27 + ((x27.toUInt32 >>> ((16 : Int32).toUInt32 &&& Int32.toUInt32 31)).toInt32)) → (x29 &&& (63 : Int32)) = Int32.ofInt ((zpop m : Nat) : Int) := by
  intro m hm x21 x23 x25 x27 x29 e1 e2 e3 e4 e5
  subst e1
  subst e2
  subst e3
  subst e4
  subst e5
  revert m
  decide +kernel
theorem zc292 {h : zH} {m : Int} (h1 : 0 ≤ m) (h2 : m < 64) : zm292 (zE m) h = some (.inl (zE (zpop m.toNat)), h) := by
  have e := zc292_d m.toNat (by omega) _ _ _ _ _ rfl rfl rfl rfl rfl
  rw [Int.toNat_of_nonneg h1] at e
  unfold zm292
  simp only [zlet_s]
  exact congrArg (fun x => some ((.inl x : Int32 ⊕ Nat), h)) e
/-- what a ring has, and what of it is taken -/
def zpls (s : zS) (r : Int) : Int := s 57 r + zsum (fun z => if s 56 (3 * r + z) = 0 then 4 else 0) 3
def ztk1 (s : zS) (k : Int) : Int := (if s 12 k = -1 then 0 else 2) + (if s 13 k = -1 then 0 else if s 14 k ≤ 50 then 1 else 2)
def ztkn (s : zS) (r : Int) : Int := zsum (fun v => ztk1 s (3 * v + r)) 4
theorem ztk1_r (s : zS) (k : Int) : 0 ≤ ztk1 s k ∧ ztk1 s k ≤ 4 := by
  unfold ztk1
  repeat' split
  all_goals omega
theorem zsum_r {f : Int → Int} {b : Int} (hf : ∀ i, 0 ≤ f i ∧ f i ≤ b) (hb : 0 ≤ b) : ∀ n : Nat, 0 ≤ zsum f n ∧ zsum f n ≤ b * n
  | 0 => ⟨Int.le_refl _, by show (0 : Int) ≤ _; omega⟩
  | n + 1 => by
    have h1 := zsum_r hf hb n
    have h2 := hf n
    show 0 ≤ zsum f n + f n ∧ zsum f n + f n ≤ b * ((n : Int) + 1)
    rw [Int.mul_add]
    omega
def zpf (sh : Int) : Int := if sh = 0 then 0 else if 50 < sh then 2 else 1
theorem zc70 {h : zH} {sh : Int} (h1 : 0 ≤ sh) (h2 : sh ≤ 100) : zm70 (zE sh) h = some (.inl (zE (zpf sh)), h) := by
  unfold zpf
  simp (discharger := omega) only [zm70, zE_0, zE_1, zE_2, zE_3, zE_4, zE_5, zE_6, zE_7, zE_8, zE_9, zE_10, zE_11, zE_12, zE_13, zE_14, zE_neg, zE_50, zE_inj, zE_lt]
  by_cases e1 : sh = 0
  · rw [if_pos e1, if_pos e1]
  · rw [if_neg e1, if_neg e1]
    by_cases e2 : 50 < sh
    · rw [if_pos e2, if_pos e2]
    · rw [if_neg e2, if_neg e2]
theorem zc69 {h : zH} {s : zS} (hR : zCr h) (hV : zCV h s) (hKk : zCK h s) (hA : zWa s) (hK : zWk s) {r : Int} (r1 : 0 ≤ r) (r2 : r < 3) : zm69 (some (12, 0)) (zE r) h = some (.inl (zE (ztkn s r)), h) := by
  have hn := hA.1
  rw [zm69, zE_0]
  refine zloop0 (W := fun n i t => zm69_4 n (some (12, 0)) (zE r) (zE t) (zE i) h) (N := 4) (fun i t => t = zsum (fun v => ztk1 s (3 * v + r)) i.toNat) (fun x => x = some (.inl (zE (ztkn s r)), h)) 0 rfl (by decide) (by decide) ?_ ?_
  · intro n t ht
    subst ht
    simp only [zm69_4, zE_0, zE_1, zE_2, zE_3, zE_4, zE_5, zE_6, zE_7, zE_8, zE_9, zE_10, zE_11, zE_12, zE_13, zE_14, zE_neg, Int32.le_refl, if_true]
    rfl
  · intro n i t h1 h2 ht
    refine Or.inr ⟨t + ztk1 s (3 * i + r), ?_, ?_⟩
    · rw [show (i + 1).toNat = i.toNat + 1 by omega]
      show _ = zsum _ i.toNat + ztk1 s (3 * (i.toNat : Int) + r)
      rw [← ht, Int.toNat_of_nonneg h1]
    · obtain ⟨k1, k2, k3, k4, -⟩ := hK (3 * i + r) (by omega) (by omega)
      have h3 : ¬ 4 ≤ i := by omega
      have ez : (zrf 0 (s 12 (3 * i + r)) = none) = (s 12 (3 * i + r) = -1) := zrf_z k1.1
      simp (discharger := omega) only [zm69_4, zm69_25, ↓zo_12, ↓zo_9, ↓zo_10, ↓zLVa hR hV, ↓zLKa hV, zE_0, zE_1, zE_2, zE_3, zE_4, zE_5, zE_6, zE_7, zE_8, zE_9, zE_10, zE_11, zE_12, zE_13, zE_14, zE_neg, zE_le, h3, if_false, zCk2 hKk, zc70, ↓zb_s, ↓zlet_s, zCk0 hKk, ez, zE_add]
      unfold zpf ztk1
      by_cases e1 : s 12 (3 * i + r) = -1 <;> by_cases e2 : s 13 (3 * i + r) = -1 <;> by_cases e3 : s 14 (3 * i + r) ≤ 50
      all_goals
        have e4 : (s 14 (3 * i + r) = 0) ↔ (s 13 (3 * i + r) = -1) := k4.symm
        have e5 : (50 < s 14 (3 * i + r)) ↔ ¬ s 14 (3 * i + r) ≤ 50 := by omega
        simp only [e1, e2, e3, e4, e5, if_true, if_false, not_true, not_false_iff, Int.add_zero, Int.zero_add, Int.add_assoc]
      all_goals first
        | rfl
        | (exact congrArg (fun x => zm69_4 n (some (12, 0)) (zE r) (zE x) (zE (i + 1)) h) (by omega))
theorem zc71 {h : zH} {s : zS} (hR : zCr h) (hX : zCX h s) (hZ : zWz s) {r : Int} (r1 : 0 ≤ r) (r2 : r < 3) : zm71 (some (12, 0)) (zE r) h = some (.inl (zE (zpls s r)), h) := by
  obtain ⟨⟨x1, x2, -⟩, x4, -⟩ := hX
  obtain ⟨y1, y2⟩ := x4 r r1 r2
  have a0 := hZ.2.2.1 (3 * r) (by omega) (by omega)
  have a1 := hZ.2.2.1 (3 * r + 1) (by omega) (by omega)
  have a2 := hZ.2.2.1 (3 * r + 2) (by omega) (by omega)
  have e1 : ∀ f : Int32 → zRs Int32, zri (zr h 12 0 8) (zE r) h f = f (zE (s 56 (3 * r) + (2 * s 56 (3 * r + 1) + 4 * s 56 (3 * r + 2)))) := fun f => zri_s (zCr8 hR) rfl x1 r1 (by omega) (by omega) y1
  have e2 : ∀ f : Int32 → zRs Int32, zri (zr h 12 0 9) (zE r) h f = f (zE (s 57 r)) := fun f => zri_s (zCr9 hR) rfl x2 r1 (by omega) (by omega) y2
  rw [zm71, zo_12, e1, zc292 (by omega) (by omega), zb_s, e2, zE_4, zE_3, zE_sub, zE_mul, zE_add]
  refine congrArg (fun x => some ((.inl (zE x) : Int32 ⊕ Nat), h)) ?_
  show _ = s 57 r + (((0 + (if s 56 (3 * r + ((0 : Nat) : Int)) = 0 then 4 else 0)) + (if s 56 (3 * r + ((1 : Nat) : Int)) = 0 then 4 else 0)) + (if s 56 (3 * r + ((2 : Nat) : Int)) = 0 then 4 else 0))
  rw [show (3 * r + ((0 : Nat) : Int)) = 3 * r by omega, show (3 * r + ((1 : Nat) : Int)) = 3 * r + 1 by omega, show (3 * r + ((2 : Nat) : Int)) = 3 * r + 2 by omega]
  have q : ∀ x : Nat, x < 2 → ∀ y : Nat, y < 2 → ∀ z : Nat, z < 2 → zpop (x + (2 * y + 4 * z)) = x + y + z := by decide
  have q1 := q (s 56 (3 * r)).toNat (by omega) (s 56 (3 * r + 1)).toNat (by omega) (s 56 (3 * r + 2)).toNat (by omega)
  rw [show (s 56 (3 * r) + (2 * s 56 (3 * r + 1) + 4 * s 56 (3 * r + 2))).toNat = (s 56 (3 * r)).toNat + (2 * (s 56 (3 * r + 1)).toNat + 4 * (s 56 (3 * r + 2)).toNat) by omega, q1]
  repeat' split
  all_goals omega
