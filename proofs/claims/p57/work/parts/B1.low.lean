set_option maxRecDepth 16384
/-! The law's own small methods; masks and shifts. -/
theorem zand31 (x : Int32) : ∃ a : Int, 0 ≤ a ∧ a < 2147483648 ∧ x &&& (2147483647 : Int32) = zE a := by
  have h : 0 ≤ (x &&& (2147483647 : Int32)).toInt := by
    show 0 ≤ (x &&& (2147483647 : Int32)).toBitVec.toInt
    rw [Int32.toBitVec_and]
    have m : (x.toBitVec &&& (2147483647 : Int32).toBitVec).msb = false := by
      have e : (2147483647 : Int32).toBitVec.msb = false := by decide
      rw [BitVec.msb_and, e, Bool.and_false]
    rw [BitVec.toInt_eq_msb_cond, m, if_neg Bool.false_ne_true]
    exact Int.natCast_nonneg _
  have r := zE_rng (x &&& (2147483647 : Int32))
  exact ⟨_, h, r.2, zE_of _⟩
/-- low -/
theorem zl242 {h : zH} (x : Int32) {n : Int} (n0 : 0 < n) (n1 : n < 2147483648) : ∃ a : Int, 0 ≤ a ∧ a < n ∧ zm242 x (zE n) h = some (.inl (zE a), h) := by
  obtain ⟨a, a0, a1, e⟩ := zand31 x
  have q0 := Int.emod_nonneg a (show n ≠ 0 by omega)
  have q1 := Int.emod_lt_of_pos a n0
  refine ⟨a % n, q0, q1, ?_⟩
  rw [zm242, e, zE_rem a0 a1 n0 n1]
  exact zif_s (fun z => by rw [zE_0, zE_inj (by omega) (by omega) (by omega) (by omega)] at z; omega)
/-- the script -/
def zScr (L : Nat) (h : zH) : Prop := zln h 40 0 = L ∧ L ≤ 260
theorem zl241 {L : Nat} {h : zH} {k : Int} (hS : zScr L h) (k0 : 0 ≤ k) (k1 : k < 2147483648) : ∃ v, zm241 (some (40, 0)) (zE k) h = some (.inl v, h) := by
  obtain ⟨s1, s2⟩ := hS
  have ea : ∀ {α : Type} (f : Nat → Nat → Option α), zal (some (40, 0)) f = f 40 0 := by
    intro α f
    show (if (ztg 40 == 1 || ztg 40 == 10) = true then f 40 0 else none) = f 40 0
    exact if_pos rfl
  rw [zm241, ea]
  by_cases c : nI (zln h 40 0) ≤ zE k
  · exact ⟨_, if_pos c⟩
  · refine ⟨_, (if_neg c).trans (zri_s (k := 40) (i := 0) (n := L) rfl rfl s1 k0 ?_ k1 rfl)⟩
    rw [s1, zE_nI, zE_le (by omega) (by omega) (by omega) (by omega)] at c
    omega
-- masks, by trial
theorem zsh_b : ∀ r : Nat, r < 256 → ∀ j : Nat, j < 8 → (Int32.ofNat r >>> (Int32.ofNat j &&& 31)) &&& (1 : Int32) = if r.testBit j then 1 else 0 := by decide +kernel
theorem zor_1 : ∀ r : Nat, r < 256 → Int32.ofNat r ||| (1 : Int32) = Int32.ofNat (r ||| 1) ∧ r ||| 1 < 256 ∧ (r ||| 1).testBit 0 = true ∧ ∀ j : Nat, j < 8 → r.testBit j = true → (r ||| 1).testBit j = true := by decide +kernel
theorem zshl_1 : ∀ x : Nat, x < 3 → (1 : Int32) <<< (Int32.ofNat x &&& 31) = Int32.ofNat (2 ^ x) := by decide +kernel
theorem zbit_1 : ∀ r : Nat, r < 256 → 0 < r → ∃ j : Nat, j < 8 ∧ r.testBit j = true := by decide +kernel
theorem zE_on {a : Int} (h : 0 ≤ a) : zE a = Int32.ofNat a.toNat := by
  rw [← Int32.ofInt_eq_ofNat, Int.toNat_of_nonneg h]
  rfl
theorem zl_shb {r j : Int} (r0 : 0 ≤ r) (r1 : r < 256) (j0 : 0 ≤ j) (j1 : j < 8) : (zE r >>> (zE j &&& 31)) &&& (1 : Int32) = if zbt r j then 1 else 0 := by
  rw [zE_on r0, zE_on j0]
  exact zsh_b r.toNat (by omega) j.toNat (by omega)
theorem zl_or1 {r : Int} (r0 : 0 ≤ r) (r1 : r < 256) : ∃ q : Int, 1 ≤ q ∧ q ≤ 255 ∧ zE r ||| (1 : Int32) = zE q ∧ zbt q 0 ∧ ∀ j, 0 ≤ j → j < 8 → zbt r j → zbt q j := by
  obtain ⟨a1, a2, a3, a4⟩ := zor_1 r.toNat (by omega)
  have a5 : 1 ≤ r.toNat ||| 1 := Nat.right_le_or
  refine ⟨((r.toNat ||| 1 : Nat) : Int), by omega, by omega, ?_, a3, fun j j0 j1 h => ?_⟩
  · rw [zE_on r0, a1]
    exact (zE_on (Int.natCast_nonneg _)).symm
  · exact a4 j.toNat (by omega) h
theorem zl_shl {x : Int} (x0 : 0 ≤ x) (x1 : x < 3) : ∃ q : Int, 1 ≤ q ∧ q ≤ 4 ∧ (1 : Int32) <<< (zE x &&& 31) = zE q := by
  refine ⟨((2 ^ x.toNat : Nat) : Int), ?_, ?_, ?_⟩
  · have := Nat.two_pow_pos x.toNat
    omega
  · have : 2 ^ x.toNat ≤ 2 ^ 2 := Nat.pow_le_pow_right (by omega) (by omega)
    omega
  · rw [zE_on x0, zshl_1 x.toNat (by omega)]
    exact (zE_on (Int.natCast_nonneg _)).symm
